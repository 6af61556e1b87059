theorem b01_0 {P : Prop} [Decidable P] : b01 P = 0 ↔ ¬ P := by
  unfold b01
  split <;> simp_all
theorem b01_n {P : Prop} [Decidable P] : ¬ b01 P = 0 ↔ P := by
  rw [b01_0]
  exact Classical.not_not
theorem bP_n {P : Prop} : ¬ bP P = 0 ↔ P := by
  rw [bP_0]
  exact Classical.not_not
def Only (ks : List Nat) (σ τ : St) : Prop := ∀ k, k ∉ ks → τ k = σ k
theorem Only.rf {ks : List Nat} {σ : St} : Only ks σ σ := fun _ _ => rfl
theorem Only.tr {ks : List Nat} {σ τ υ : St} (h : Only ks σ τ) (h2 : Only ks τ υ) : Only ks σ υ := fun k hk => (h2 k hk).trans (h k hk)
theorem Only.up {ks : List Nat} {σ τ : St} {k : Nat} {j x : Int} (h : Only ks σ τ) (hk : k ∈ ks) : Only ks σ (up τ k j x) := fun k' h' => (up_ne (fun e : k' = k => h' (by rw [e]; exact hk))).trans (h k' h')
theorem Only.mono {ks ks' : List Nat} {σ τ : St} (h : Only ks σ τ) (hs : ∀ k ∈ ks, k ∈ ks') : Only ks' σ τ := fun k hk => h k (fun q => hk (hs k q))
def tsum (w : Int → Int → Int) (lab : Int → Int) (L p : Int) : Int := sumTo (fun l => w p l * lab l) L.toNat
theorem nsum_t (σ : St) (b : Nat) : nsum σ b = tsum (nwt σ b) (σ (b + 5)) (σ b 1) := rfl
theorem tsum_c {w w' : Int → Int → Int} {lab lab' : Int → Int} {L p : Int} (h : ∀ l, 0 ≤ l → l < L → w p l = w' p l ∧ lab l = lab' l) : tsum w lab L p = tsum w' lab' L p := by
  unfold tsum
  refine sumTo_c fun i h0 h1 => ?_
  rw [(h i h0 (by omega)).1, (h i h0 (by omega)).2]
/-- the part of the reference's cells that outlives a call -/
def pp (σ : St) : St := fun k j => if k = 75 then (if j = 0 ∨ j = 1 ∨ j = 7 ∨ j = 12 ∨ j = 26 then σ 75 j else 0) else if 76 ≤ k ∧ k ≤ 87 ∨ k = 95 then σ k j else 0
theorem pp_c {σ : St} {k : Nat} (h : 76 ≤ k ∧ k ≤ 87 ∨ k = 95) : pp σ k = σ k := by
  funext j
  unfold pp
  rw [if_neg (by omega), if_pos h]
theorem pp_f {σ : St} {j : Int} (h : j = 0 ∨ j = 1 ∨ j = 7 ∨ j = 12 ∨ j = 26) : pp σ 75 j = σ 75 j := by
  unfold pp
  rw [if_pos rfl, if_pos h]
theorem pp_up {σ : St} {k : Nat} {j x : Int} (h : (76 ≤ k ∧ k ≤ 87 ∨ k = 95) ∨ k = 75 ∧ (j = 0 ∨ j = 1 ∨ j = 7 ∨ j = 12 ∨ j = 26)) : pp (up σ k j x) = up (pp σ) k j x := by
  funext k' j'
  unfold pp up
  by_cases h1 : k' = k
  · by_cases h2 : j' = j
    · subst h1 h2
      simp only [and_self, if_true]
      rcases h with h | ⟨h, h3⟩
      · rw [if_neg (by omega), if_pos h]
      · subst h
        rw [if_pos rfl, if_pos h3]
        simp
    · simp [h1, h2]
  · simp only [h1, false_and, if_false]
    by_cases h3 : k' = 75
    · subst h3
      simp [h1]
    · simp [h3]
theorem pp_no {σ τ : St} (h0 : ∀ j : Int, j = 0 ∨ j = 1 ∨ j = 7 ∨ j = 12 ∨ j = 26 → τ 75 j = σ 75 j) (h : ∀ k, 76 ≤ k ∧ k ≤ 87 ∨ k = 95 → τ k = σ k) : pp τ = pp σ := by
  funext k j
  unfold pp
  by_cases h1 : k = 75
  · rw [if_pos h1, if_pos h1]
    by_cases h2 : j = 0 ∨ j = 1 ∨ j = 7 ∨ j = 12 ∨ j = 26
    · rw [if_pos h2, if_pos h2, h0 j h2]
    · rw [if_neg h2, if_neg h2]
  · rw [if_neg h1, if_neg h1]
    by_cases h2 : 76 ≤ k ∧ k ≤ 87 ∨ k = 95
    · rw [if_pos h2, if_pos h2, h k h2]
    · rw [if_neg h2, if_neg h2]
theorem pp_pp (σ : St) : pp (pp σ) = pp σ := pp_no (fun j h => pp_f h) (fun k h => pp_c h)
/-- alike but for what the reference keeps no longer than a call -/
def ME (τ ρ : St) : Prop := pp τ = pp ρ ∧ ∀ k, k < 75 → τ k = ρ k
theorem ME.rf (σ : St) : ME σ σ := ⟨rfl, fun _ _ => rfl⟩
theorem ME.tr {σ τ υ : St} (h : ME σ τ) (h2 : ME τ υ) : ME σ υ := ⟨h.1.trans h2.1, fun k hk => (h.2 k hk).trans (h2.2 k hk)⟩
abbrev mScr : List Nat := [88, 89, 90, 91, 92, 93, 94, 96]
theorem ME.only {σ τ : St} (h : Only mScr σ τ) : ME τ σ := by
  refine ⟨pp_no (fun j _ => ?_) (fun k hk => ?_), fun k hk => ?_⟩
  · rw [h 75 (by decide)]
  · exact h k (by simp only [List.mem_cons, List.not_mem_nil, or_false]; omega)
  · exact h k (by simp only [List.mem_cons, List.not_mem_nil, or_false]; omega)
def rf (α : St) (r : Int) : St := up α 87 (-r) (α 87 (-r) + 1)
/-- the first of n numbers from i on of which P is so; -9: there is none -/
noncomputable def fstP (P : Int → Prop) : Nat → Int → Int
  | 0, _ => -9
  | n + 1, i => @ite Int (P i) (Classical.propDecidable _) i (fstP P n (i + 1))
theorem fstP_t {P : Int → Prop} {n : Nat} {i : Int} (h : P i) : fstP P (n + 1) i = i := @if_pos _ (Classical.propDecidable _) h _ _ _
theorem fstP_f {P : Int → Prop} {n : Nat} {i : Int} (h : ¬ P i) : fstP P (n + 1) i = fstP P n (i + 1) := @if_neg _ (Classical.propDecidable _) h _ _ _
theorem fstP_c {P Q : Int → Prop} : ∀ {n : Nat} {i : Int}, (∀ j, i ≤ j → j < i + n → (P j ↔ Q j)) → fstP P n i = fstP Q n i
  | 0, _, _ => rfl
  | n + 1, i, h => by
    by_cases q : P i
    · rw [fstP_t q, fstP_t ((h i (by omega) (by omega)).mp q)]
    · rw [fstP_f q, fstP_f (fun z => q ((h i (by omega) (by omega)).mpr z))]
      exact fstP_c (fun j a b => h j (by omega) (by omega))
theorem fstP_R {P : Int → Prop} : ∀ {n : Nat} {i : Int}, 0 ≤ i → fstP P n i = -9 ∨ i ≤ fstP P n i ∧ fstP P n i < i + n
  | 0, _, _ => Or.inl rfl
  | n + 1, i, h => by
    by_cases q : P i
    · rw [fstP_t q]; omega
    · rw [fstP_f q]
      have := @fstP_R P n (i + 1) (by omega)
      omega
noncomputable def bitsTo (f : Int → Int) (n : Int) : Nat → Int
  | 0 => 0
  | m + 1 => @ite Int (ruleP m f n) (Classical.propDecidable _) (ior (bitsTo f n m) (ishl 1 m)) (bitsTo f n m)
/-! the calls -/
def an_letter (α : St) (c : Int) : Int := if c < 0 then -4 else if 255 < c ∨ α 75 12 = 72 then -6 else α 75 12 + 1
def nx_letter (α : St) (c : Int) : St := if c < 0 then rf α (-4) else if 255 < c ∨ α 75 12 = 72 then rf α (-6) else up (up α 84 (α 75 12) c) 75 12 (α 75 12 + 1)
def an_points (α : St) (n : Int) : Int := if n < 1 then -4 else if 7 < n then -6 else α 75 0
def nx_points (α : St) (n : Int) : St := if n < 1 then rf α (-4) else if 7 < n then rf α (-6) else up (up (up α 75 0 n) 75 1 0) 75 7 0
def an_line (α : St) (k p q : Int) : Int := if ¬ (0 ≤ k ∧ k ≤ 5) then -2 else if ¬ (0 ≤ p ∧ p < α 75 0) ∨ ¬ (0 ≤ q ∧ q < α 75 0) then -1 else if α 75 1 = 8 then -6 else α 75 1
def nx_line (α : St) (k p q : Int) : St := if ¬ (0 ≤ k ∧ k ≤ 5) then rf α (-2) else if ¬ (0 ≤ p ∧ p < α 75 0) ∨ ¬ (0 ≤ q ∧ q < α 75 0) then rf α (-1) else if α 75 1 = 8 then rf α (-6) else up (addLine α 75 k p q) 75 7 0
def an_drop (α : St) : Int := if α 75 1 = 0 then -3 else α 75 1 - 1
def nx_drop (α : St) : St := if α 75 1 = 0 then rf α (-3) else up (up α 75 1 (α 75 1 - 1)) 75 7 0
/-- a change that can be undone is kept; of eight the oldest goes -/
def canU (α : St) : St := fun k j =>
  let u : Int := if α 75 7 = 8 then 7 else α 75 7
  if k = 75 ∧ j = 7 then u + 1
  else if k = 81 ∧ 8 * u ≤ j ∧ j < 8 * u + 8 then α 76 (j - 8 * u)
  else if k = 82 ∧ 8 * u ≤ j ∧ j < 8 * u + 8 then α 77 (j - 8 * u)
  else if k = 83 ∧ 8 * u ≤ j ∧ j < 8 * u + 8 then α 80 (j - 8 * u)
  else if (k = 81 ∨ k = 82 ∨ k = 83) ∧ α 75 7 = 8 ∧ 0 ≤ j ∧ j < 56 then α k (j + 8)
  else α k j
def an_label (α : St) (l v : Int) : Int := if ¬ (0 ≤ l ∧ l < α 75 1) then -1 else if v < 0 then -4 else if 99 < v then -6 else α 80 l
def nx_label (α : St) (l v : Int) : St := if ¬ (0 ≤ l ∧ l < α 75 1) then rf α (-1) else if v < 0 then rf α (-4) else if 99 < v then rf α (-6) else up (canU α) 80 l v
def an_turn (α : St) (l k f : Int) : Int := if ¬ (0 ≤ l ∧ l < α 75 1) then -1 else if ¬ (0 ≤ k ∧ k ≤ 5) then -2 else if f < 0 then -4 else if 9 < f then -6 else 10 * α 76 l + α 77 l
def nx_turn (α : St) (l k f : Int) : St := if ¬ (0 ≤ l ∧ l < α 75 1) then rf α (-1) else if ¬ (0 ≤ k ∧ k ≤ 5) then rf α (-2) else if f < 0 then rf α (-4) else if 9 < f then rf α (-6) else up (up (canU α) 76 l k) 77 l f
def an_of (α : St) (l w : Int) : Int := if ¬ (0 ≤ l ∧ l < α 75 1) then -1 else if w = 0 then α 76 l else if w = 1 then α 77 l else if w = 2 then α 78 l else if w = 3 then α 79 l else if w = 4 then α 80 l else if w = 5 then kforth (α 76 l) (α 77 l) else if w = 6 then kback (α 76 l) (α 77 l) else -2
def nx_of (α : St) (l w : Int) : St := if ¬ (0 ≤ l ∧ l < α 75 1) then rf α (-1) else if 0 ≤ w ∧ w ≤ 6 then α else rf α (-2)
def an_taken (α : St) (l k : Int) : Int := if ¬ (0 ≤ l ∧ l < α 75 1) then -1 else if ¬ (0 ≤ k ∧ k ≤ 5) then -2 else if k = 0 ∨ α 76 l = k ∨ k = 1 ∧ α 76 l = 3 ∨ k = 2 ∧ α 76 l = 4 then α 76 l else -16
def nx_taken (α : St) (l k : Int) : St := if ¬ (0 ≤ l ∧ l < α 75 1) then rf α (-1) else if ¬ (0 ≤ k ∧ k ≤ 5) then rf α (-2) else α
def an_table (α : St) (p l : Int) : Int := if (0 ≤ p ∧ p < α 75 0) ∧ (0 ≤ l ∧ l < α 75 1) then nwt α 75 p l else -1
def nx_table (α : St) (p l : Int) : St := if (0 ≤ p ∧ p < α 75 0) ∧ (0 ≤ l ∧ l < α 75 1) then α else rf α (-1)
def an_sum (α : St) (p : Int) : Int := if 0 ≤ p ∧ p < α 75 0 then nsum α 75 p else -1
def nx_sum (α : St) (p : Int) : St := if 0 ≤ p ∧ p < α 75 0 then α else rf α (-1)
def an_total (α : St) : Int := sumTo (nsum α 75) (α 75 0).toNat
noncomputable def an_rule (α : St) (r : Int) : Int := if 0 ≤ r ∧ r ≤ 5 then bP (ruleP r (nsum α 75) (α 75 0)) else -2
def nx_rule (α : St) (r : Int) : St := if 0 ≤ r ∧ r ≤ 5 then α else rf α (-2)
noncomputable def an_ranked (α : St) (k : Int) : Int := if k < 0 then -4 else fstP (fun p => sumTo (ahd (nsum α 75) p) (α 75 0).toNat = k) (α 75 0).toNat 0
def nx_ranked (α : St) (k : Int) : St := if k < 0 then rf α (-4) else α
def an_list (l m : Int) : Int := if ¬ (0 ≤ l ∧ l ≤ 2) then -1 else if 40 < m then -6 else if m < 0 then -14 else 1
def nx_list (α : St) (l m : Int) : St := if ¬ (0 ≤ l ∧ l ≤ 2) then rf α (-1) else if 40 < m then rf α (-6) else if m < 0 then α else fun k j => if k = 86 ∧ 40 * l ≤ j ∧ j < 40 * l + m then 0 else up α 85 l m k j
def an_put (α : St) (l i : Int) : Int := if ¬ (0 ≤ l ∧ l ≤ 2) then -1 else if α 85 l < 0 then -11 else if ¬ (0 ≤ i ∧ i < α 85 l) then -13 else 1
def nx_put (α : St) (l i v : Int) : St := if ¬ (0 ≤ l ∧ l ≤ 2) then rf α (-1) else if α 85 l < 0 then α else if ¬ (0 ≤ i ∧ i < α 85 l) then α else up α 86 (40 * l + i) v
def an_look (α : St) (l i : Int) : Int := if ¬ (0 ≤ l ∧ l ≤ 2) then 4000000000000000001 else if α 85 l < 0 then 4000000000000000011 else if ¬ (0 ≤ i ∧ i < α 85 l) then 4000000000000000013 else α 86 (40 * l + i)
def nx_look (α : St) (l : Int) : St := if ¬ (0 ≤ l ∧ l ≤ 2) then rf α (-1) else α
def an_lays (α : St) (l i : Int) : Int := if ¬ (0 ≤ l ∧ l ≤ 2) then -1 else if α 85 l < 0 then -11 else if i < 0 ∨ α 85 l - α 75 0 < i then -13 else α 75 0
def nx_lays (α : St) (l i : Int) : St := if ¬ (0 ≤ l ∧ l ≤ 2) then rf α (-1) else if α 85 l < 0 then α else if i < 0 ∨ α 85 l - α 75 0 < i then α else fun k j => if k = 86 ∧ 40 * l + i ≤ j ∧ j < 40 * l + i + α 75 0 then nsum α 75 (j - (40 * l + i)) else α k j
noncomputable def an_judge (α : St) (l : Int) : Int := if ¬ (0 ≤ l ∧ l ≤ 2) then -1 else if α 85 l < 0 then -11 else fstP (fun k => k = α 75 0 ∨ α 86 (40 * l + k) ≠ nsum α 75 k) (α 85 l).toNat 0
def nx_judge (α : St) (l : Int) : St := if ¬ (0 ≤ l ∧ l ≤ 2) then rf α (-1) else α
def givesP (α : St) (l : Int) : Prop := α 85 l = α 75 1 ∧ ∀ i, 0 ≤ i → i < α 75 1 → 0 ≤ α 86 (40 * l + i) ∧ α 86 (40 * l + i) ≤ 99
noncomputable def an_gives (α : St) (l : Int) : Int := if ¬ (0 ≤ l ∧ l ≤ 2) then -1 else if α 85 l < 0 then -11 else @ite Int (givesP α l) (Classical.propDecidable _) (α 75 1) (-3)
noncomputable def nx_gives (α : St) (l : Int) : St := if ¬ (0 ≤ l ∧ l ≤ 2) then rf α (-1) else if α 85 l < 0 then α else @ite St (givesP α l) (Classical.propDecidable _) (fun k j => if k = 80 ∧ 0 ≤ j ∧ j < α 75 1 then α 86 (40 * l + j) else canU α k j) (rf α (-3))
noncomputable def an_rules (α : St) (l : Int) : Int := if ¬ (0 ≤ l ∧ l ≤ 2) then -1 else if α 85 l < 0 then -11 else if ¬ (1 ≤ α 85 l ∧ α 85 l ≤ 7) then -3 else bitsTo (fun i => α 86 (40 * l + i)) (α 85 l) 6
def nx_rules (α : St) (l : Int) : St := if ¬ (0 ≤ l ∧ l ≤ 2) then rf α (-1) else if α 85 l < 0 then α else if ¬ (1 ≤ α 85 l ∧ α 85 l ≤ 7) then rf α (-3) else α
def an_undo (α : St) : Int := if α 75 7 = 0 then -3 else α 75 7 - 1
def nx_undo (α : St) : St := if α 75 7 = 0 then rf α (-3) else fun k j =>
  if k = 75 ∧ j = 7 then α 75 7 - 1
  else if k = 76 ∧ 0 ≤ j ∧ j < 8 then α 81 (8 * (α 75 7 - 1) + j)
  else if k = 77 ∧ 0 ≤ j ∧ j < 8 then α 82 (8 * (α 75 7 - 1) + j)
  else if k = 80 ∧ 0 ≤ j ∧ j < 8 then α 83 (8 * (α 75 7 - 1) + j)
  else α k j
/-- the net written into a row, and back -/
def keepR (α : St) (c : Nat) : St := fun k j =>
  if k = c then (if 0 ≤ j ∧ j < 8 then α 76 j else if 8 ≤ j ∧ j < 16 then α 77 (j - 8) else if 16 ≤ j ∧ j < 24 then α 78 (j - 16) else if 24 ≤ j ∧ j < 32 then α 79 (j - 24) else if 32 ≤ j ∧ j < 40 then α 80 (j - 32) else if j = 40 then α 75 0 else if j = 41 then α 75 1 else α k j) else α k j
def backR (α : St) (c : Nat) : St := fun k j =>
  if k = 76 ∧ 0 ≤ j ∧ j < 8 then α c j else if k = 77 ∧ 0 ≤ j ∧ j < 8 then α c (8 + j) else if k = 78 ∧ 0 ≤ j ∧ j < 8 then α c (16 + j) else if k = 79 ∧ 0 ≤ j ∧ j < 8 then α c (24 + j) else if k = 80 ∧ 0 ≤ j ∧ j < 8 then α c (32 + j) else if k = 75 ∧ j = 0 then α c 40 else if k = 75 ∧ j = 1 then α c 41 else α k j
def an_image (α : St) : Int := α 75 1
def nx_image (α : St) : St := keepR (up α 75 26 1) 95
def an_on (α : St) : Int := if α 75 26 = 0 then -3 else α 95 41
def nx_on (α : St) : St := if α 75 26 = 0 then rf α (-3) else up (backR α 95) 75 7 0
def an_count (α : St) (w : Int) : Int := if 11 ≤ w ∧ w ≤ 16 then α 87 (w - 10) else if w = 0 then α 75 0 else if w = 1 then α 75 1 else if w = 2 then α 75 12 else if w = 3 then α 75 7 else if w = 4 then sumTo (α 80) (α 75 1).toNat else -9
/-! the class's cells tell what the reference's do -/
def ImgOK (α : St) : Prop := 1 ≤ α 95 40 ∧ α 95 40 ≤ 7 ∧ 0 ≤ α 95 41 ∧ α 95 41 ≤ 8 ∧ (∀ i : Int, 0 ≤ i → i < 8 → 0 ≤ α 95 i ∧ α 95 i ≤ 5 ∧ 0 ≤ α 95 (8 + i) ∧ α 95 (8 + i) ≤ 9 ∧ 0 ≤ α 95 (16 + i) ∧ α 95 (16 + i) ≤ 6 ∧ 0 ≤ α 95 (24 + i) ∧ α 95 (24 + i) ≤ 6 ∧ 0 ≤ α 95 (32 + i) ∧ α 95 (32 + i) ≤ 99) ∧ ∀ i : Int, 0 ≤ i → i < α 95 41 → α 95 (16 + i) < α 95 40 ∧ α 95 (24 + i) < α 95 40
def OK (α : St) : Prop := NetOK α 75 ∧ (0 ≤ α 75 7 ∧ α 75 7 ≤ 8) ∧ (0 ≤ α 75 12 ∧ α 75 12 ≤ 72) ∧ (∀ i : Int, 0 ≤ i → i < α 75 12 → 0 ≤ α 84 i ∧ α 84 i ≤ 255) ∧ (α 75 26 = 0 ∨ α 75 26 = 1 ∧ ImgOK α) ∧ (∀ l : Int, 0 ≤ l → l < 3 → -1 ≤ α 85 l ∧ α 85 l ≤ 40 ∧ ∀ i : Int, 0 ≤ i → i < α 85 l → inR (α 86 (40 * l + i))) ∧ (∀ i : Int, 0 ≤ i → i < 8 * α 75 7 → 0 ≤ α 81 i ∧ α 81 i ≤ 5 ∧ 0 ≤ α 82 i ∧ α 82 i ≤ 9 ∧ 0 ≤ α 83 i ∧ α 83 i ≤ 99)
def RXlet (α σ : St) : Prop := σ 62 2 = α 75 12 ∧ ∀ i : Int, 0 ≤ i → i < α 75 12 → σ 63 i = α 84 i
def RXpast (α σ : St) : Prop := σ 19 4 = α 75 7 ∧ 0 ≤ σ 19 3 ∧ σ 19 3 < 8 ∧ ∀ j : Int, 0 ≤ j → j < α 75 7 → ∀ i : Int, 0 ≤ i → i < 8 → σ (23 + ((σ 19 3 + 8 - α 75 7 + j) % 8).toNat) i = α 81 (8 * j + i) ∧ σ (31 + ((σ 19 3 + 8 - α 75 7 + j) % 8).toNat) i = α 82 (8 * j + i) ∧ σ (39 + ((σ 19 3 + 8 - α 75 7 + j) % 8).toNat) i = α 83 (8 * j + i)
def RXlist (α σ : St) : Prop := ∀ l : Int, 0 ≤ l → l < 3 → σ 71 l = α 85 l ∧ ∀ i : Int, 0 ≤ i → i < α 85 l → σ (68 + l.toNat) i = α 86 (40 * l + i)
def RXref (α σ : St) : Prop := ∀ i : Int, 0 ≤ i → i < 7 → σ 72 i = α 87 i
def RXimg (α σ : St) : Prop := σ 0 2 = α 75 26 ∧ (α 75 26 = 1 → σ 7 0 = α 95 40 ∧ σ 7 1 = α 95 41 ∧ ∀ i : Int, 0 ≤ i → i < 8 → σ 8 i = α 95 i ∧ σ 9 i = α 95 (8 + i) ∧ σ 10 i = α 95 (16 + i) ∧ σ 11 i = α 95 (24 + i) ∧ σ 12 i = α 95 (32 + i))
def RX (α σ : St) : Prop := NetEq σ 1 α 75 ∧ RXlet α σ ∧ RXpast α σ ∧ RXlist α σ ∧ RXref α σ ∧ RXimg α σ
/-- cells of the class that outlive a call -/
def xP (k : Nat) : Prop := k ≤ 12 ∨ 19 ≤ k ∧ k ≤ 46 ∨ 62 ≤ k ∧ k ≤ 63 ∨ 66 ≤ k ∧ k ≤ 72
theorem RX_c {α σ τ : St} (h : ∀ k, xP k → τ k = σ k) (q : RX α σ) : RX α τ := by
  obtain ⟨q1, q2, q3, q4, q5, q6⟩ := q
  refine ⟨?_, ?_, ?_, ?_, ?_, ?_⟩
  · unfold NetEq at q1 ⊢
    rw [h 1 (by unfold xP; omega), h (1 + 1) (by unfold xP; omega), h (1 + 2) (by unfold xP; omega), h (1 + 3) (by unfold xP; omega), h (1 + 4) (by unfold xP; omega), h (1 + 5) (by unfold xP; omega)]
    exact q1
  · unfold RXlet at q2 ⊢
    rw [h 62 (by unfold xP; omega), h 63 (by unfold xP; omega)]
    exact q2
  · unfold RXpast at q3 ⊢
    rw [h 19 (by unfold xP; omega)]
    refine ⟨q3.1, q3.2.1, q3.2.2.1, fun j j0 j1 i i0 i1 => ?_⟩
    have hm := Int.emod_lt_of_pos (σ 19 3 + 8 - α 75 7 + j) (show (0:Int) < 8 by decide)
    have hm0 := Int.emod_nonneg (σ 19 3 + 8 - α 75 7 + j) (show (8:Int) ≠ 0 by decide)
    rw [h (23 + _) (by unfold xP; omega), h (31 + _) (by unfold xP; omega), h (39 + _) (by unfold xP; omega)]
    exact q3.2.2.2 j j0 j1 i i0 i1
  · unfold RXlist at q4 ⊢
    intro l l0 l1
    rw [h 71 (by unfold xP; omega), h (68 + l.toNat) (by unfold xP; omega)]
    exact q4 l l0 l1
  · unfold RXref at q5 ⊢
    rw [h 72 (by unfold xP; omega)]
    exact q5
  · unfold RXimg at q6 ⊢
    rw [h 0 (by unfold xP; omega), h 7 (by unfold xP; omega), h 8 (by unfold xP; omega), h 9 (by unfold xP; omega), h 10 (by unfold xP; omega), h 11 (by unfold xP; omega), h 12 (by unfold xP; omega)]
    exact q6
