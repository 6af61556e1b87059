def dgs (c : Int) : Int := if c = 110 then 1 else if c = 102 then 2 else if c = 108 then 3 else if c = 118 then 3 else -1
/-- the place of the first letter with which no text goes on, from i on, d digits being due (-1: a statement); -1: there is none -/
def mis (f : Int → Int) (m : Int) : Nat → Int → Int → Int
  | 0, _, d => if 0 < m ∧ d = -1 then -1 else m
  | n + 1, i, d => if d = -1 then (if dgs (f i) < 0 then i else mis f m n (i + 1) (dgs (f i))) else if 0 < d then (if f i < 48 ∨ 57 < f i then i else mis f m n (i + 1) (d - 1)) else (if f i = 59 then mis f m n (i + 1) (-1) else i)
def digP (f : Int → Int) (at_ d : Int) : Prop := ∀ j, 1 ≤ j → j ≤ d → 48 ≤ f (at_ + j) ∧ f (at_ + j) ≤ 57
theorem misd (f : Int → Int) (m : Int) : ∀ (d : Nat) (n : Nat) (i : Int), 0 ≤ i → (n : Int) = m - i → mis f m n i d = -1 → i + d + 1 ≤ m ∧ (∀ j : Int, 0 ≤ j → j < d → 48 ≤ f (i + j) ∧ f (i + j) ≤ 57) ∧ f (i + d) = 59 ∧ mis f m (m - (i + d + 1)).toNat (i + d + 1) (-1) = -1
  | d, 0, i, h0, hn, h => by
    unfold mis at h
    rw [if_neg (by omega)] at h
    omega
  | 0, n + 1, i, h0, hn, h => by
    unfold mis at h
    rw [if_neg (by omega), if_neg (by omega)] at h
    by_cases e : f i = 59
    · rw [if_pos e] at h
      refine ⟨by omega, fun j a b => by omega, by rw [show i + ((0:Nat) : Int) = i by omega]; exact e, ?_⟩
      rw [show (m - (i + ((0:Nat) : Int) + 1)).toNat = n by omega, show i + ((0:Nat) : Int) + 1 = i + 1 by omega]
      exact h
    · rw [if_neg e] at h
      omega
  | d + 1, n + 1, i, h0, hn, h => by
    unfold mis at h
    rw [if_neg (by omega), if_pos (by omega)] at h
    by_cases e : f i < 48 ∨ 57 < f i
    · rw [if_pos e] at h
      omega
    · rw [if_neg e, show ((d + 1 : Nat) : Int) - 1 = (d : Int) by omega] at h
      obtain ⟨h1, h2, h3, h4⟩ := misd f m d n (i + 1) (by omega) (by omega) h
      refine ⟨by omega, fun j a b => ?_, by rw [show i + ((d + 1 : Nat) : Int) = i + 1 + d by omega]; exact h3, by rw [show i + ((d + 1 : Nat) : Int) + 1 = i + 1 + d + 1 by omega]; exact h4⟩
      by_cases z : j = 0
      · subst z
        rw [show i + 0 = i by omega]
        omega
      · have := h2 (j - 1) (by omega) (by omega)
        rw [show i + 1 + (j - 1) = i + j by omega] at this
        exact this
theorem dgs_R (c : Int) : dgs c = -1 ∨ dgs c = 1 ∨ dgs c = 2 ∨ dgs c = 3 := by
  unfold dgs
  (repeat' split) <;> omega
/-- a statement of a text without a fault of form -/
theorem mis_st {f : Int → Int} {m i : Int} (h0 : 0 ≤ i ∧ i < m) (h : mis f m (m - i).toNat i (-1) = -1) : 1 ≤ dgs (f i) ∧ dgs (f i) ≤ 3 ∧ i + dgs (f i) + 2 ≤ m ∧ digP f i (dgs (f i)) ∧ mis f m (m - (i + dgs (f i) + 2)).toNat (i + dgs (f i) + 2) (-1) = -1 := by
  rw [show (m - i).toNat = (m - (i + 1)).toNat + 1 by omega] at h
  unfold mis at h
  rw [if_pos rfl] at h
  have hd := dgs_R (f i)
  by_cases e : dgs (f i) < 0
  · rw [if_pos e] at h
    omega
  · rw [if_neg e] at h
    have hz := misd f m (dgs (f i)).toNat (m - (i + 1)).toNat (i + 1) (by omega) (by omega) (by rw [show (((dgs (f i)).toNat : Nat) : Int) = dgs (f i) by omega]; exact h)
    rw [show (((dgs (f i)).toNat : Nat) : Int) = dgs (f i) by omega] at hz
    obtain ⟨h1, h2, h3, h4⟩ := hz
    refine ⟨by omega, by omega, by omega, fun j a b => ?_, ?_⟩
    · have := h2 (j - 1) (by omega) (by omega)
      rw [show i + 1 + (j - 1) = i + j by omega] at this
      exact this
    · rw [show i + dgs (f i) + 2 = i + 1 + dgs (f i) + 1 by omega]
      exact h4
theorem mis_R (f : Int → Int) (m : Int) : ∀ (n : Nat) (i d : Int), (n : Int) = m - i → 0 ≤ i → -1 ≤ mis f m n i d ∧ mis f m n i d ≤ m
  | 0, i, d, hn, h0 => by
    unfold mis
    split <;> omega
  | n + 1, i, d, hn, h0 => by
    have hz := fun d => mis_R f m n (i + 1) d (by omega) (by omega)
    unfold mis
    have h1 := hz (dgs (f i))
    have h2 := hz (d - 1)
    have h3 := hz (-1)
    (repeat' split) <;> omega
/-- a statement done upon a net -/
def stm (σ : St) (b : Nat) (f : Int → Int) (i : Int) : Option St :=
  if f i = 110 then (if 1 ≤ f (i + 1) - 48 ∧ f (i + 1) - 48 ≤ 7 then some (up (up σ b 0 (f (i + 1) - 48)) b 1 0) else none)
  else if f i = 108 then (if f (i + 1) - 48 ≤ 5 ∧ f (i + 2) - 48 < σ b 0 ∧ f (i + 3) - 48 < σ b 0 ∧ σ b 1 < 8 then some (addLine σ b (f (i + 1) - 48) (f (i + 2) - 48) (f (i + 3) - 48)) else none)
  else if f i = 102 then (if f (i + 1) - 48 < σ b 1 then some (up σ (b + 2) (f (i + 1) - 48) (f (i + 2) - 48)) else none)
  else (if f (i + 1) - 48 < σ b 1 then some (up σ (b + 5) (f (i + 1) - 48) (10 * (f (i + 2) - 48) + (f (i + 3) - 48))) else none)
def tellF (b : Nat) (f : Int → Int) (m : Int) : Nat → Int → Int → St → Int × St
  | 0, _, n, σ => (n, σ)
  | k + 1, i, n, σ => if i < m then (match stm σ b f i with
    | none => (-2000 - i, σ)
    | some τ => tellF b f m k (i + dgs (f i) + 2) (n + 1) τ) else (n, σ)
/-- what a text changes -/
def TO (b : Nat) (σ τ : St) : Prop := (∀ k, k < b ∨ b + 5 < k → τ k = σ k) ∧ (∀ j : Int, j ≠ 0 → j ≠ 1 → τ b j = σ b j) ∧ ∀ k, b + 1 ≤ k → k ≤ b + 5 → ∀ j : Int, ¬ (0 ≤ j ∧ j < 8) → τ k j = σ k j
theorem TO.rf (b : Nat) (σ : St) : TO b σ σ := ⟨fun _ _ => rfl, fun _ _ _ => rfl, fun _ _ _ _ _ => rfl⟩
theorem TO.tr {b : Nat} {σ τ υ : St} (h : TO b σ τ) (h2 : TO b τ υ) : TO b σ υ := ⟨fun k hk => (h2.1 k hk).trans (h.1 k hk), fun j a c => (h2.2.1 j a c).trans (h.2.1 j a c), fun k a c j d => (h2.2.2 k a c j d).trans (h.2.2 k a c j d)⟩
theorem TO.num {b : Nat} {σ : St} {j x : Int} (h : j = 0 ∨ j = 1) : TO b σ (up σ b j x) := ⟨fun k hk => up_ne (by omega), fun j' a c => up_nj (by omega), fun k a c j' d => up_o (by omega)⟩
theorem TO.row {b c : Nat} {σ : St} {j x : Int} (hc : 1 ≤ c ∧ c ≤ 5) (h : 0 ≤ j ∧ j < 8) : TO b σ (up σ (b + c) j x) := ⟨fun k hk => up_ne (by omega), fun j' a c => up_o (by omega), fun k a c j' d => up_nj (by omega)⟩
theorem TO.add {b : Nat} {σ : St} {x y z : Int} (h : 0 ≤ σ b 1 ∧ σ b 1 < 8) : TO b σ (addLine σ b x y z) := by
  unfold addLine
  exact ((((((TO.row (by decide) h).tr (TO.row (by decide) h)).tr (TO.row (by decide) h)).tr (TO.row (by decide) h)).tr (TO.row (by decide) h)).tr (TO.num (Or.inr rfl)))
theorem NetEq.num {σ τ : St} {b c : Nat} {j x : Int} (h : NetEq σ b τ c) (hj : j = 0 ∨ j = 1) : NetEq (up σ b j x) b (up τ c j x) c := by
  refine ⟨?_, ?_, fun i a d => ?_⟩
  · rcases hj with rfl | rfl
    · rw [up_at, up_at]
    · rw [up_nj (by decide), up_nj (by decide)]; exact h.1
  · rcases hj with rfl | rfl
    · rw [up_nj (by decide), up_nj (by decide)]; exact h.2.1
    · rw [up_at, up_at]
  · rw [up_o (by omega), up_o (by omega), up_o (by omega), up_o (by omega), up_o (by omega), up_o (by omega), up_o (by omega), up_o (by omega), up_o (by omega), up_o (by omega)]
    exact h.2.2 i a d
theorem NetEq.row {σ τ : St} {b c q : Nat} {j x : Int} (h : NetEq σ b τ c) (hq : 1 ≤ q ∧ q ≤ 5) : NetEq (up σ (b + q) j x) b (up τ (c + q) j x) c := by
  refine ⟨?_, ?_, fun i a d => ?_⟩
  · rw [up_o (by omega), up_o (by omega)]; exact h.1
  · rw [up_o (by omega), up_o (by omega)]; exact h.2.1
  · obtain ⟨h1, h2, h3, h4, h5⟩ := h.2.2 i a d
    have key : ∀ e : Nat, σ (b + e) i = τ (c + e) i → up σ (b + q) j x (b + e) i = up τ (c + q) j x (c + e) i := by
      intro e he
      by_cases z : e = q ∧ i = j
      · obtain ⟨rfl, rfl⟩ := z
        rw [up_at, up_at]
      · unfold up
        rw [if_neg (by omega), if_neg (by omega)]
        exact he
    exact ⟨key 1 h1, key 2 h2, key 3 h3, key 4 h4, key 5 h5⟩
theorem NetEq.add {σ τ : St} {b c : Nat} {x y z : Int} (h : NetEq σ b τ c) : NetEq (addLine σ b x y z) b (addLine τ c x y z) c := by
  have e1 := h.2.1
  unfold addLine
  rw [e1]
  exact (((((h.row (q := 1) (by decide)).row (q := 2) (by decide)).row (q := 3) (by decide)).row (q := 4) (by decide)).row (q := 5) (by decide)).num (Or.inr rfl)
/-- like nets, like statements -/
theorem stm_eq {σ τ : St} {b c : Nat} {f g : Int → Int} {i : Int} (h : NetEq σ b τ c) (hf : ∀ j, i ≤ j → j ≤ i + dgs (f i) → f j = g j) (hd : 1 ≤ dgs (f i)) : (stm σ b f i = none ∧ stm τ c g i = none) ∨ ∃ σ' τ', stm σ b f i = some σ' ∧ stm τ c g i = some τ' ∧ NetEq σ' b τ' c := by
  have e0 : f i = g i := hf i (by omega) (by omega)
  have e1 : f (i + 1) = g (i + 1) := hf _ (by omega) (by omega)
  unfold stm
  rw [← e0, ← e1, ← h.1, ← h.2.1]
  by_cases c1 : f i = 110
  · rw [if_pos c1, if_pos c1]
    by_cases c2 : 1 ≤ f (i + 1) - 48 ∧ f (i + 1) - 48 ≤ 7
    · rw [if_pos c2, if_pos c2]
      exact Or.inr ⟨_, _, rfl, rfl, (h.num (Or.inl rfl)).num (Or.inr rfl)⟩
    · rw [if_neg c2, if_neg c2]
      exact Or.inl ⟨rfl, rfl⟩
  rw [if_neg c1, if_neg c1]
  by_cases c3 : f i = 108
  · rw [if_pos c3, if_pos c3]
    have e2 : f (i + 2) = g (i + 2) := hf _ (by omega) (by rw [c3]; unfold dgs; rw [if_neg (by decide), if_neg (by decide), if_pos rfl]; omega)
    have e3 : f (i + 3) = g (i + 3) := hf _ (by omega) (by rw [c3]; unfold dgs; rw [if_neg (by decide), if_neg (by decide), if_pos rfl]; omega)
    rw [← e2, ← e3]
    by_cases c2 : f (i + 1) - 48 ≤ 5 ∧ f (i + 2) - 48 < σ b 0 ∧ f (i + 3) - 48 < σ b 0 ∧ σ b 1 < 8
    · rw [if_pos c2, if_pos c2]
      exact Or.inr ⟨_, _, rfl, rfl, h.add⟩
    · rw [if_neg c2, if_neg c2]
      exact Or.inl ⟨rfl, rfl⟩
  rw [if_neg c3, if_neg c3]
  by_cases c4 : f i = 102
  · rw [if_pos c4, if_pos c4]
    have e2 : f (i + 2) = g (i + 2) := hf _ (by omega) (by rw [c4]; unfold dgs; rw [if_neg (by decide), if_pos rfl]; omega)
    rw [← e2]
    by_cases c2 : f (i + 1) - 48 < σ b 1
    · rw [if_pos c2, if_pos c2]
      exact Or.inr ⟨_, _, rfl, rfl, h.row (q := 2) (by decide)⟩
    · rw [if_neg c2, if_neg c2]
      exact Or.inl ⟨rfl, rfl⟩
  rw [if_neg c4, if_neg c4]
  have hd3 : dgs (f i) = 3 := by
    unfold dgs at hd ⊢
    rw [if_neg c1, if_neg c4, if_neg c3] at hd ⊢
    by_cases z : f i = 118
    · rw [if_pos z]
    · rw [if_neg z] at hd; omega
  have e2 : f (i + 2) = g (i + 2) := hf _ (by omega) (by omega)
  have e3 : f (i + 3) = g (i + 3) := hf _ (by omega) (by omega)
  rw [← e2, ← e3]
  by_cases c2 : f (i + 1) - 48 < σ b 1
  · rw [if_pos c2, if_pos c2]
    exact Or.inr ⟨_, _, rfl, rfl, h.row (q := 5) (by decide)⟩
  · rw [if_neg c2, if_neg c2]
    exact Or.inl ⟨rfl, rfl⟩
/-- a statement keeps a net in order, and changes no more than the net -/
theorem stm_ok {σ τ : St} {b : Nat} {f : Int → Int} {i : Int} (h : NetOK σ b) (hd : 1 ≤ dgs (f i)) (hg : digP f i (dgs (f i))) (hs : stm σ b f i = some τ) : NetOK τ b ∧ TO b σ τ := by
  have d1 := hg 1 (by omega) hd
  obtain ⟨n1, n2, n3, n4, n5, n6⟩ := h
  unfold stm at hs
  by_cases c1 : f i = 110
  · rw [if_pos c1] at hs
    by_cases c2 : 1 ≤ f (i + 1) - 48 ∧ f (i + 1) - 48 ≤ 7
    · rw [if_pos c2] at hs
      cases hs
      refine ⟨⟨by rw [up_nj (by decide), up_at]; omega, by rw [up_nj (by decide), up_at]; omega, by rw [up_at]; omega, by rw [up_at]; omega, fun j a c => ?_, fun j a c => by rw [up_at] at c; omega⟩, (TO.num (Or.inl rfl)).tr (TO.num (Or.inr rfl))⟩
      rw [up_o (by omega), up_o (by omega), up_o (by omega), up_o (by omega), up_o (by omega), up_o (by omega), up_o (by omega), up_o (by omega), up_o (by omega), up_o (by omega)]
      exact n5 j a c
    · rw [if_neg c2] at hs
      cases hs
  rw [if_neg c1] at hs
  by_cases c3 : f i = 108
  · rw [if_pos c3] at hs
    have hd3 : dgs (f i) = 3 := by rw [c3]; rfl
    have d2 := hg 2 (by omega) (by omega)
    have d3 := hg 3 (by omega) (by omega)
    by_cases c2 : f (i + 1) - 48 ≤ 5 ∧ f (i + 2) - 48 < σ b 0 ∧ f (i + 3) - 48 < σ b 0 ∧ σ b 1 < 8
    · rw [if_pos c2] at hs
      cases hs
      refine ⟨?_, TO.add ⟨n3, c2.2.2.2⟩⟩
      have a0 : addLine σ b (f (i + 1) - 48) (f (i + 2) - 48) (f (i + 3) - 48) b 0 = σ b 0 := by
        unfold addLine
        rw [up_nj (by decide), up_o (by omega), up_o (by omega), up_o (by omega), up_o (by omega), up_o (by omega)]
      have a1 : addLine σ b (f (i + 1) - 48) (f (i + 2) - 48) (f (i + 3) - 48) b 1 = σ b 1 + 1 := by
        unfold addLine
        rw [up_at]
      have ar : ∀ j : Int, addLine σ b (f (i + 1) - 48) (f (i + 2) - 48) (f (i + 3) - 48) (b + 1) j = (if j = σ b 1 then f (i + 1) - 48 else σ (b + 1) j) ∧ addLine σ b (f (i + 1) - 48) (f (i + 2) - 48) (f (i + 3) - 48) (b + 2) j = (if j = σ b 1 then 0 else σ (b + 2) j) ∧ addLine σ b (f (i + 1) - 48) (f (i + 2) - 48) (f (i + 3) - 48) (b + 3) j = (if j = σ b 1 then f (i + 2) - 48 else σ (b + 3) j) ∧ addLine σ b (f (i + 1) - 48) (f (i + 2) - 48) (f (i + 3) - 48) (b + 4) j = (if j = σ b 1 then f (i + 3) - 48 else σ (b + 4) j) ∧ addLine σ b (f (i + 1) - 48) (f (i + 2) - 48) (f (i + 3) - 48) (b + 5) j = (if j = σ b 1 then 0 else σ (b + 5) j) := by
        intro j
        unfold addLine
        refine ⟨?_, ?_, ?_, ?_, ?_⟩ <;> by_cases e : j = σ b 1 <;> simp [up, e]
      refine ⟨by rw [a0]; omega, by rw [a0]; omega, by rw [a1]; omega, by rw [a1]; omega, fun j a c => ?_, fun j a c => ?_⟩
      · obtain ⟨r1, r2, r3, r4, r5⟩ := ar j
        have hn := n5 j a c
        rw [r1, r2, r3, r4, r5]
        by_cases e : j = σ b 1
        · rw [if_pos e, if_pos e, if_pos e, if_pos e, if_pos e]
          omega
        · rw [if_neg e, if_neg e, if_neg e, if_neg e, if_neg e]
          exact hn
      · obtain ⟨r1, r2, r3, r4, r5⟩ := ar j
        rw [a1] at c
        rw [r3, r4, a0]
        by_cases e : j = σ b 1
        · rw [if_pos e, if_pos e]
          omega
        · rw [if_neg e, if_neg e]
          exact n6 j a (by omega)
    · rw [if_neg c2] at hs
      cases hs
  rw [if_neg c3] at hs
  have upd : ∀ (q : Nat) (j x : Int), (q = 2 ∧ 0 ≤ x ∧ x ≤ 9 ∨ q = 5 ∧ 0 ≤ x ∧ x ≤ 99) → NetOK (up σ (b + q) j x) b := by
    intro q j x hq
    have hr : ∀ (e : Nat) (j' : Int), up σ (b + q) j x (b + e) j' = if e = q ∧ j' = j then x else σ (b + e) j' := by
      intro e j'
      unfold up
      by_cases z : e = q ∧ j' = j
      · rw [if_pos z, if_pos (by omega)]
      · rw [if_neg z, if_neg (by omega)]
    refine ⟨by rw [up_o (by omega)]; exact n1, by rw [up_o (by omega)]; exact n2, by rw [up_o (by omega)]; exact n3, by rw [up_o (by omega)]; exact n4, fun j' a c => ?_, fun j' a c => ?_⟩
    · have hn := n5 j' a c
      rw [hr 1, hr 2, hr 3, hr 4, hr 5]
      (repeat' split) <;> omega
    · rw [up_o (by omega)] at c
      rw [hr 3, hr 4, up_o (by omega)]
      have hn := n6 j' a c
      (repeat' split) <;> omega
  by_cases c4 : f i = 102
  · rw [if_pos c4] at hs
    have hd3 : dgs (f i) = 2 := by rw [c4]; rfl
    have d2 := hg 2 (by omega) (by omega)
    by_cases c2 : f (i + 1) - 48 < σ b 1
    · rw [if_pos c2] at hs
      cases hs
      exact ⟨upd 2 _ _ (Or.inl ⟨rfl, by omega, by omega⟩), TO.row (by decide) (by omega)⟩
    · rw [if_neg c2] at hs
      cases hs
  rw [if_neg c4] at hs
  have hd3 : dgs (f i) = 3 := by
    unfold dgs at hd ⊢
    rw [if_neg c1, if_neg c4, if_neg c3] at hd ⊢
    by_cases z : f i = 118
    · rw [if_pos z]
    · rw [if_neg z] at hd; omega
  have d2 := hg 2 (by omega) (by omega)
  have d3 := hg 3 (by omega) (by omega)
  by_cases c2 : f (i + 1) - 48 < σ b 1
  · rw [if_pos c2] at hs
    cases hs
    exact ⟨upd 5 _ _ (Or.inr ⟨rfl, by omega, by omega⟩), TO.row (by decide) (by omega)⟩
  · rw [if_neg c2] at hs
    cases hs
def misF (α : St) : Int := mis (α 84) (α 75 12) (α 75 12).toNat 0 (-1)
def tellR (α : St) : Int × St := tellF 75 (α 84) (α 75 12) (α 75 12).toNat 0 0 (up α 75 12 0)
def an_text (α : St) : Int := if misF α = -1 then (tellR α).1 else -1000 - misF α
def nx_text (α : St) : St := if misF α = -1 then (if 0 ≤ (tellR α).1 then up (tellR α).2 75 7 0 else up α 75 12 0) else up α 75 12 0
