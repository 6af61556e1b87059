/-- the product of k numbers from n on -/
def Pr (g : Int → Int) : Nat → Int → Int
  | 0, _ => 1
  | k + 1, n => g n * Pr g k (n + 1)
theorem Pr_s (g : Int → Int) (k : Nat) (n : Int) : Pr g (k + 1) n = g n * Pr g k (n + 1) := rfl
theorem Pr_c {f g : Int → Int} : ∀ {k : Nat} {n : Int}, (∀ i : Int, n ≤ i → i < n + k → f i = g i) → Pr f k n = Pr g k n
  | 0, _, _ => rfl
  | k + 1, n, h => by rw [Pr_s, Pr_s, h n (by omega) (by omega), Pr_c (k := k) (fun i a b => h i (by omega) (by omega))]
theorem Pr_up (g : Int → Int) (q v : Int) : ∀ (k : Nat) (n : Int), n ≤ q → q < n + k → Pr (upf g q v) k n = v * Pr (upf g q 1) k n
  | 0, n, a, b => by omega
  | k + 1, n, a, b => by
    rw [Pr_s, Pr_s]
    by_cases e : n = q
    · rw [e, upf_at, upf_at, Int.one_mul, Pr_c (f := upf g q v) (g := g) (fun i c _ => upf_o (by omega)), Pr_c (f := upf g q 1) (g := g) (fun i c _ => upf_o (by omega))]
    · rw [upf_o e, upf_o e, Pr_up g q v k (n + 1) (by omega) (by omega)]
      grind
theorem upf_self (g : Int → Int) (q : Int) : upf g q (g q) = g := by
  funext j
  unfold upf
  split
  · rename_i e; rw [e]
  · rfl
theorem upf_2 (g : Int → Int) (q a b : Int) : upf (upf g q a) q b = upf g q b := by
  funext j
  unfold upf
  split <;> rfl
theorem upf_cm (g : Int → Int) {q s : Int} (a b : Int) (h : q ≠ s) : upf (upf g q a) s b = upf (upf g s b) q a := by
  funext j
  unfold upf
  (repeat' split) <;> first | rfl | omega
theorem Pr_at (g : Int → Int) (q : Int) (k : Nat) (n : Int) (a : n ≤ q) (b : q < n + k) : Pr g k n = g q * Pr (upf g q 1) k n := by
  have h := Pr_up g q (g q) k n a b
  rw [upf_self] at h
  exact h
def ab (x : Int) : Int := (x.natAbs : Int)
theorem ab_mul (x y : Int) : ab (x * y) = ab x * ab y := by
  unfold ab
  rw [Int.natAbs_mul, Int.natCast_mul]
theorem ab_le {x c : Int} : ab x ≤ c ↔ -c ≤ x ∧ x ≤ c := by unfold ab; omega
theorem ab_0 (x : Int) : 0 ≤ ab x := by unfold ab; omega
theorem ab_sub (x y : Int) : ab (x - y) ≤ ab x + ab y := by unfold ab; omega
theorem mul_le {a b c d : Int} (h1 : a ≤ c) (h2 : b ≤ d) (h3 : 0 ≤ b) (h4 : 0 ≤ c) : a * b ≤ c * d := Int.mul_le_mul h1 h2 h3 h4
theorem Pr_ab {f g : Int → Int} : ∀ {k : Nat} {n : Int}, (∀ i : Int, n ≤ i → i < n + k → ab (f i) ≤ g i) → ab (Pr f k n) ≤ Pr g k n
  | 0, _, _ => (by decide : ab 1 ≤ 1)
  | k + 1, n, h => by
    have h1 := h n (by omega) (by omega)
    have h2 := Pr_ab (f := f) (g := g) (k := k) (n := n + 1) (fun i a b => h i (by omega) (by omega))
    rw [Pr_s, Pr_s, ab_mul]
    exact mul_le h1 h2 (ab_0 _) (by have := ab_0 (f n); omega)
theorem Pr_1 {g : Int → Int} : ∀ {k : Nat} {n : Int}, (∀ i : Int, n ≤ i → i < n + k → 1 ≤ g i) → 1 ≤ Pr g k n
  | 0, _, _ => (by decide : (1 : Int) ≤ 1)
  | k + 1, n, h => by
    have h1 := h n (by omega) (by omega)
    have h2 := Pr_1 (g := g) (k := k) (n := n + 1) (fun i a b => h i (by omega) (by omega))
    rw [Pr_s]
    have := mul_le h1 h2 (by decide) (by omega)
    omega
/-- n and r change places -/
def swi (n r : Int) (i : Int) : Int := if i = n then r else if i = r then n else i
theorem swi_i (n r i : Int) : swi n r (swi n r i) = i := by unfold swi; (repeat' split) <;> omega
theorem swi_R {n r i N : Int} (hr : n ≤ r ∧ r < N) (hi : n ≤ i ∧ i < N) : n ≤ swi n r i ∧ swi n r i < N := by unfold swi; (repeat' split) <;> omega
theorem Pr_sw (f : Int → Int) (n r : Int) : ∀ k : Nat, n ≤ r → r < n + k → Pr (fun i => f (swi n r i)) k n = Pr f k n
  | 0, a, b => by omega
  | k + 1, a, b => by
    by_cases e : n = r
    · exact Pr_c fun i _ _ => by unfold swi; (repeat' split) <;> simp_all
    · rw [Pr_s, Pr_s, Pr_at f r k (n + 1) (by omega) (by omega), Pr_c (f := fun i => f (swi n r i)) (g := upf f r (f n)) (k := k) (n := n + 1) (fun i c d => by unfold swi upf; (repeat' split) <;> first | rfl | omega), Pr_up f r (f n) k (n + 1) (by omega) (by omega)]
      have : swi n r n = r := if_pos rfl
      show f (swi n r n) * _ = _
      rw [this]
      grind
theorem upf_sw (g : Int → Int) (n r s v : Int) : upf (fun i => g (swi n r i)) s v = fun i => upf g (swi n r s) v (swi n r i) := by
  funext j
  unfold upf
  by_cases e : j = s
  · rw [if_pos e, if_pos (by rw [e])]
  · rw [if_neg e, if_neg (fun q => e (by rw [← swi_i n r j, q, swi_i]))]
theorem if_mv {n q s y a : Int} (h1 : n < s) : (if (if y = n then q else y) = s then a else 0) = (if y = s then a else 0) + (if y = n ∧ q = s then a else 0) := by
  by_cases c : y = n
  · rw [if_pos c, if_neg (show ¬ y = s by omega)]
    by_cases d : q = s
    · rw [if_pos d, if_pos ⟨c, d⟩, Int.zero_add]
    · rw [if_neg d, if_neg (fun z => d z.2), Int.zero_add]
  · rw [if_neg c, if_neg (show ¬ (y = n ∧ q = s) from fun z => c z.1), Int.add_zero]
section RK
variable (N L : Int) (fw bw : Int → Int)
def awt (e e' : Int → Int) (s j : Int) : Int := (if e j = s then fw j else 0) + (if e' j = s then bw j else 0)
/-- what stands in the rows from n on: products -/
def RKI (n d : Int) (A : Int → Int → Int) (K : Int) (g h : Int → Int) (x : Int → Int → Int) (e e' : Int → Int) : Prop :=
  d = K * Pr g (N - n).toNat n ∧ d ≠ 0 ∧
  (∀ s j : Int, n ≤ s → s < N → 0 ≤ j → j < L → A s j = x s j * (K * Pr (upf g s 1) (N - n).toNat n)) ∧
  (∀ s : Int, n ≤ s → s < N → 1 ≤ h s ∧ ab (g s) ≤ h s) ∧
  (∀ s j : Int, n ≤ s → s < N → 0 ≤ j → j < L → ab (x s j) ≤ awt fw bw e e' s j * h s) ∧
  ab K * Pr (fun i => 13 * h i) (N - n).toNat n ≤ 62748517
end RK
section RK
variable {N L : Int} {fw bw : Int → Int}
theorem awt_R (hw : ∀ j : Int, 0 ≤ j → j < L → 0 ≤ fw j ∧ 0 ≤ bw j ∧ fw j + bw j ≤ 13) {j : Int} (h0 : 0 ≤ j) (h1 : j < L) (e e' : Int → Int) (s : Int) : 0 ≤ awt fw bw e e' s j ∧ awt fw bw e e' s j ≤ 13 := by
  have := hw j h0 h1
  unfold awt
  (repeat' split) <;> omega
theorem rk_bd (hw : ∀ j : Int, 0 ≤ j → j < L → 0 ≤ fw j ∧ 0 ≤ bw j ∧ fw j + bw j ≤ 13) {n d K : Int} {A x : Int → Int → Int} {g h e e' : Int → Int} (hI : RKI N L fw bw n d A K g h x e e') : ab d ≤ 62748517 ∧ ∀ s j : Int, n ≤ s → s < N → 0 ≤ j → j < L → ab (A s j) ≤ 62748517 := by
  obtain ⟨i1, i2, i3, i4, i5, i6⟩ := hI
  have key : ∀ f : Int → Int, (∀ i : Int, n ≤ i → i < n + ((N - n).toNat : Int) → ab (f i) ≤ 13 * h i) → ab (K * Pr f (N - n).toNat n) ≤ 62748517 := fun f hf => by
    have h1 := Pr_ab (g := fun i => 13 * h i) hf
    rw [ab_mul]
    have h2 := Int.mul_le_mul_of_nonneg_left h1 (ab_0 K)
    omega
  refine ⟨by rw [i1]; exact key g fun i a b => by have := i4 i a (by omega); omega, fun s j s0 s1 j0 j1 => ?_⟩
  have h1 := i5 s j s0 s1 j0 j1
  have h2 := awt_R hw j0 j1 e e' s
  have h3 := (i4 s s0 s1).1
  have h4 : ab (x s j) ≤ 13 * h s := by
    have := Int.mul_le_mul_of_nonneg_right h2.2 (show 0 ≤ h s by omega)
    omega
  rw [i3 s j s0 s1 j0 j1, show x s j * (K * Pr (upf g s 1) (N - n).toNat n) = K * (x s j * Pr (upf g s 1) (N - n).toNat n) by grind, ← Pr_up g s (x s j) (N - n).toNat n s0 (by omega)]
  refine key _ fun i a b => ?_
  by_cases q : i = s
  · rw [q, upf_at]; exact h4
  · rw [upf_o q]
    have := i4 i a (by omega)
    omega
theorem rk_sw {n d K r : Int} {A x : Int → Int → Int} {g h e e' : Int → Int} (hI : RKI N L fw bw n d A K g h x e e') (hr : n ≤ r ∧ r < N) : RKI N L fw bw n d (fun s => A (swi n r s)) K (fun s => g (swi n r s)) (fun s => h (swi n r s)) (fun s => x (swi n r s)) (fun j => swi n r (e j)) (fun j => swi n r (e' j)) := by
  obtain ⟨i1, i2, i3, i4, i5, i6⟩ := hI
  have hS : ∀ f : Int → Int, Pr (fun i => f (swi n r i)) (N - n).toNat n = Pr f (N - n).toNat n := fun f => Pr_sw f n r _ hr.1 (by omega)
  refine ⟨by rw [hS g]; exact i1, i2, fun s j s0 s1 j0 j1 => ?_, fun s s0 s1 => ?_, fun s j s0 s1 j0 j1 => ?_, ?_⟩
  · have hs := swi_R hr ⟨s0, s1⟩
    rw [upf_sw, hS (upf g (swi n r s) 1)]
    exact i3 _ j hs.1 hs.2 j0 j1
  · have hs := swi_R hr ⟨s0, s1⟩
    exact i4 _ hs.1 hs.2
  · have hs := swi_R hr ⟨s0, s1⟩
    have h1 := i5 _ j hs.1 hs.2 j0 j1
    have hx : ∀ y : Int, (swi n r y = s ↔ y = swi n r s) := fun y => ⟨fun q => by rw [← q, swi_i], fun q => by rw [q, swi_i]⟩
    unfold awt at h1 ⊢
    simp only [hx]
    exact h1
  · rw [hS (fun i => 13 * h i)]
    exact i6
def pvA (n l d : Int) (A : Int → Int → Int) : Int → Int → Int := fun q k => if n < q then (A q k * A n l - A n k * A q l).tdiv d else A q k
theorem rk_pv (hw : ∀ j : Int, 0 ≤ j → j < L → 0 ≤ fw j ∧ 0 ≤ bw j ∧ fw j + bw j ≤ 13) {n d K l : Int} {A x : Int → Int → Int} {g h e e' : Int → Int} (hI : RKI N L fw bw n d A K g h x e e') (hn : n < N) (hl : 0 ≤ l ∧ l < L) (hp : A n l ≠ 0) : (∀ s j : Int, n < s → s < N → 0 ≤ j → j < L → A s j * A n l - A n j * A s l = d * pvA n l d A s j) ∧ ∃ (K' : Int) (g' h' : Int → Int) (x' : Int → Int → Int) (f f' : Int → Int), RKI N L fw bw (n + 1) (A n l) (pvA n l d A) K' g' h' x' f f' := by
  obtain ⟨i1, i2, i3, i4, i5, i6⟩ := hI
  obtain ⟨k, hk⟩ : ∃ k : Nat, (N - n).toNat = k + 1 := ⟨(N - n).toNat - 1, by omega⟩
  have hk1 : (N - (n + 1)).toNat = k := by omega
  have hN : N = n + 1 + k := by omega
  rw [hk] at i1 i3 i6
  -- the products without n, and without s
  have pn : Pr (upf g n 1) (k + 1) n = Pr g k (n + 1) := by
    rw [Pr_s, upf_at, Int.one_mul]
    exact Pr_c fun i a b => upf_o (by omega)
  have ps : ∀ s : Int, n < s → Pr (upf g s 1) (k + 1) n = g n * Pr (upf g s 1) k (n + 1) := fun s a => by
    rw [Pr_s, upf_o (by omega)]
  have pd : ∀ s : Int, n < s → s < N → Pr g k (n + 1) = g s * Pr (upf g s 1) k (n + 1) := fun s a b => Pr_at g s k (n + 1) (by omega) (by omega)
  rw [Pr_s] at i1
  have hpv := i3 n l (Int.le_refl n) hn hl.1 hl.2
  rw [pn] at hpv
  have ex : ∀ s j : Int, n < s → s < N → 0 ≤ j → j < L → A s j * A n l - A n j * A s l = d * (K * Pr (upf g s 1) k (n + 1) * (x n l * x s j - x n j * x s l)) := fun s j s0 s1 j0 j1 => by
    have a1 := i3 s j (by omega) s1 j0 j1
    have a2 := i3 n j (Int.le_refl n) hn j0 j1
    have a3 := i3 s l (by omega) s1 hl.1 hl.2
    rw [ps s s0] at a1 a3
    rw [pn] at a2
    have a4 := pd s s0 s1
    rw [a1, a2, a3, hpv, i1, a4]
    generalize Pr (upf g s 1) k (n + 1) = R
    grind
  have pv : ∀ s j : Int, n < s → s < N → 0 ≤ j → j < L → pvA n l d A s j = K * Pr (upf g s 1) k (n + 1) * (x n l * x s j - x n j * x s l) := fun s j s0 s1 j0 j1 => by
    unfold pvA
    rw [if_pos s0, ex s j s0 s1 j0 j1]
    exact Int.mul_tdiv_cancel_left _ i2
  refine ⟨fun s j s0 s1 j0 j1 => by rw [pv s j s0 s1 j0 j1]; exact ex s j s0 s1 j0 j1, ?_⟩
  have hn4 := i4 n (Int.le_refl n) hn
  have hxl : ab (x n l) ≤ 13 * h n := by
    have h1 := i5 n l (Int.le_refl n) hn hl.1 hl.2
    have h2 := awt_R hw hl.1 hl.2 e e' n
    have := Int.mul_le_mul_of_nonneg_right h2.2 (show 0 ≤ h n by omega)
    omega
  have hx0 : ∀ s : Int, n ≤ s → s < N → e l ≠ s → e' l ≠ s → x s l = 0 := fun s s0 s1 c1 c2 => by
    have h1 := i5 s l s0 s1 hl.1 hl.2
    unfold awt at h1
    rw [if_neg c1, if_neg c2, Int.add_zero, Int.zero_mul] at h1
    have := ab_0 (x s l)
    unfold ab at h1 this
    omega
  have hxn : x n l ≠ 0 := fun q => hp (by rw [hpv, q, Int.zero_mul])
  have hend : e l = n ∨ e' l = n := by
    by_cases c1 : e l = n
    · exact Or.inl c1
    · by_cases c2 : e' l = n
      · exact Or.inr c2
      · exact absurd (hx0 n (Int.le_refl n) hn c1 c2) hxn
  rw [Pr_s] at i6
  by_cases hq : ∃ q : Int, n < q ∧ q < N ∧ x q l ≠ 0
  · obtain ⟨q, q0, q1, q2⟩ := hq
    have hq4 := i4 q (by omega) q1
    have hends : ∀ s : Int, n < s → s < N → s ≠ q → x s l = 0 := fun s s0 s1 s2 => by
      have hqe : e l = q ∨ e' l = q := by
        by_cases c1 : e l = q
        · exact Or.inl c1
        · by_cases c2 : e' l = q
          · exact Or.inr c2
          · exact absurd (hx0 q (by omega) q1 c1 c2) q2
      exact hx0 s (by omega) s1 (by omega) (by omega)
    refine ⟨K, upf g q (x n l * g q), upf h q (13 * h n * h q), fun s j => if s = q then x n l * x s j - x n j * x s l else x s j, fun j => if e j = n then q else e j, fun j => if e' j = n then q else e' j, ?_, hp, fun s j s0 s1 j0 j1 => ?_, fun s s0 s1 => ?_, fun s j s0 s1 j0 j1 => ?_, ?_⟩
    · rw [hk1, Pr_up g q _ k (n + 1) (by omega) (by omega), hpv, pd q q0 q1]
      generalize Pr (upf g q 1) k (n + 1) = R
      grind
    · rw [hk1, pv s j (by omega) s1 j0 j1]
      by_cases c : s = q
      · subst c
        dsimp only
        rw [if_pos rfl, upf_2]
        generalize Pr (upf g s 1) k (n + 1) = R
        grind
      · dsimp only
        rw [if_neg c, hends s (by omega) s1 c, upf_cm g _ _ (fun z => c z.symm), Pr_up (upf g s 1) q _ k (n + 1) (by omega) (by omega), show Pr (upf g s 1) k (n + 1) = g q * Pr (upf (upf g s 1) q 1) k (n + 1) by
          have := Pr_at (upf g s 1) q k (n + 1) (by omega) (by omega)
          rw [upf_o (fun z => c z.symm)] at this
          exact this]
        generalize Pr (upf (upf g s 1) q 1) k (n + 1) = R
        grind
    · by_cases c : s = q
      · subst c
        rw [upf_at, upf_at, ab_mul]
        have h1 := mul_le hxl hq4.2 (ab_0 _) (by omega)
        have h2 := mul_le hn4.1 hq4.1 (by decide) (by omega)
        refine ⟨?_, h1⟩
        have : 13 * h n * h s = 13 * (h n * h s) := by grind
        omega
      · rw [upf_o c, upf_o c]
        exact i4 s (by omega) s1
    · by_cases c : s = q
      · subst c
        dsimp only
        rw [if_pos rfl, upf_at]
        have b1 := i5 s j (by omega) s1 j0 j1
        have b2 := i5 n j (Int.le_refl n) hn j0 j1
        have b3 : ab (x s l) ≤ 13 * h s := by
          have h1 := i5 s l (by omega) s1 hl.1 hl.2
          have h2 := awt_R hw hl.1 hl.2 e e' s
          have := Int.mul_le_mul_of_nonneg_right h2.2 (show 0 ≤ h s by omega)
          omega
        have b4 := awt_R hw j0 j1 e e' s
        have b5 := awt_R hw j0 j1 e e' n
        have c1 := mul_le hxl b1 (ab_0 _) (by omega)
        have c2 := mul_le b2 b3 (ab_0 _) (Int.mul_nonneg b5.1 (by omega))
        have c3 := ab_sub (x n l * x s j) (x n j * x s l)
        rw [ab_mul, ab_mul] at c3
        have c4 : awt fw bw (fun j => if e j = n then s else e j) (fun j => if e' j = n then s else e' j) s j = awt fw bw e e' s j + awt fw bw e e' n j := by
          unfold awt
          rw [if_mv (by omega), if_mv (by omega)]
          simp only [and_true]
          omega
        rw [c4]
        have c5 : (awt fw bw e e' s j + awt fw bw e e' n j) * (13 * h n * h s) = 13 * h n * (awt fw bw e e' s j * h s) + awt fw bw e e' n j * h n * (13 * h s) := by grind
        omega
      · dsimp only
        rw [if_neg c, upf_o c]
        have c4 : awt fw bw (fun j => if e j = n then q else e j) (fun j => if e' j = n then q else e' j) s j = awt fw bw e e' s j := by
          unfold awt
          rw [if_mv (by omega), if_mv (by omega), if_neg (show ¬ (e j = n ∧ q = s) from fun z => c z.2.symm), if_neg (show ¬ (e' j = n ∧ q = s) from fun z => c z.2.symm)]
          omega
        rw [c4]
        exact i5 s j (by omega) s1 j0 j1
    · rw [hk1]
      have c1 : (fun i => 13 * upf h q (13 * h n * h q) i) = upf (fun i => 13 * h i) q (13 * (13 * h n * h q)) := by
        funext i
        unfold upf
        split <;> rfl
      rw [c1, Pr_up (fun i => 13 * h i) q _ k (n + 1) (by omega) (by omega)]
      rw [Pr_at (fun i => 13 * h i) q k (n + 1) (by omega) (by omega)] at i6
      generalize Pr (upf (fun i => 13 * h i) q 1) k (n + 1) = R at i6 ⊢
      have : ab K * (13 * h n * (13 * h q * R)) = ab K * (13 * (13 * h n * h q) * R) := by grind
      omega
  · have hends : ∀ s : Int, n < s → s < N → x s l = 0 := fun s s0 s1 => by
      by_cases c : x s l = 0
      · exact c
      · exact absurd ⟨s, s0, s1, c⟩ hq
    refine ⟨K * x n l, g, h, x, e, e', ?_, hp, fun s j s0 s1 j0 j1 => ?_, fun s s0 s1 => i4 s (by omega) s1, fun s j s0 s1 j0 j1 => i5 s j (by omega) s1 j0 j1, ?_⟩
    · rw [hk1, hpv]
      grind
    · rw [hk1, pv s j (by omega) s1 j0 j1, hends s (by omega) s1]
      generalize Pr (upf g s 1) k (n + 1) = R
      grind
    · rw [hk1, ab_mul]
      have hP := Pr_1 (g := fun i => 13 * h i) (k := k) (n := n + 1) (fun i a b => by have := (i4 i (by omega) (by omega)).1; omega)
      generalize Pr (fun i => 13 * h i) k (n + 1) = R at i6 hP ⊢
      have h1 := Int.mul_le_mul_of_nonneg_right hxl (show 0 ≤ R by omega)
      have h2 := Int.mul_le_mul_of_nonneg_left h1 (ab_0 K)
      have : ab K * ab (x n l) * R = ab K * (ab (x n l) * R) := by grind
      omega
end RK
def chk : Nat → Nat → Bool
  | 0, d => 2147483647 % d != 0
  | n + 1, d => chk n d && chk n (d + 2 ^ n)
theorem chk_v : ∀ (n d x : Nat), chk n d = true → d ≤ x → x < d + 2 ^ n → 2147483647 % x ≠ 0
  | 0, d, x, h, a, b => by
    have : x = d := by rw [Nat.pow_zero] at b; omega
    rw [this]
    simpa [chk] using h
  | n + 1, d, x, h, a, b => by
    unfold chk at h
    rw [Bool.and_eq_true] at h
    rw [Nat.pow_succ] at b
    by_cases c : x < d + 2 ^ n
    · exact chk_v n d x h.1 a c
    · exact chk_v n (d + 2 ^ n) x h.2 (by omega) (by omega)
theorem chk_p : chk 16 2 = true := by decide +kernel
theorem div_p {g : Nat} (h : g ∣ 2147483647) : g = 1 ∨ g = 2147483647 := by
  obtain ⟨c, hc⟩ := h
  have key : ∀ x y : Nat, 2147483647 = x * y → 2 ≤ x → x ≤ 46341 → False := fun x y e a b => chk_v 16 2 x chk_p a (by omega) (by rw [e]; exact Nat.mul_mod_right x y)
  by_cases a1 : g ≤ 46341
  · by_cases a2 : 2 ≤ g
    · exact (key g c hc a2 a1).elim
    · have : g ≠ 0 := fun e => by rw [e, Nat.zero_mul] at hc; omega
      exact Or.inl (by omega)
  · by_cases b1 : c ≤ 46341
    · by_cases b2 : 2 ≤ c
      · exact (key c g (by rw [hc, Nat.mul_comm]) b2 b1).elim
      · have : c ≠ 0 := fun e => by rw [e, Nat.mul_zero] at hc; omega
        have : c = 1 := by omega
        rw [this, Nat.mul_one] at hc
        exact Or.inr hc.symm
    · have := Nat.mul_le_mul (show 46342 ≤ g by omega) (show 46342 ≤ c by omega)
      omega
theorem euc {a b : Int} (h : (2147483647 : Int) ∣ a * b) : (2147483647 : Int) ∣ a ∨ (2147483647 : Int) ∣ b := by
  have h1 : 2147483647 ∣ a.natAbs * b.natAbs := by
    rw [← Int.natAbs_mul]
    exact Int.natAbs_dvd_natAbs.mpr h
  rcases div_p (Nat.gcd_dvd_left 2147483647 b.natAbs) with q | q
  · exact Or.inl (Int.natAbs_dvd_natAbs.mp (Nat.Coprime.dvd_of_dvd_mul_right q h1))
  · refine Or.inr (Int.natAbs_dvd_natAbs.mp ?_)
    have := Nat.gcd_dvd_right 2147483647 b.natAbs
    rw [q] at this
    exact this
theorem dv_0 {a : Int} (h : (2147483647 : Int) ∣ a) (hb : ab a < 2147483647) : a = 0 := by
  obtain ⟨c, hc⟩ := h
  unfold ab at hb
  omega
/-- the class's rows: remainders of a multiple of the reference's -/
def CB (N L n l : Int) (A B : Int → Int → Int) : Prop := ∃ c : Int, ¬ (2147483647 : Int) ∣ c ∧ ∀ s j : Int, n ≤ s → s < N → l ≤ j → j < L → (2147483647 : Int) ∣ B s j - c * A s j ∧ ab (B s j) < 2147483647
theorem CB.zero {N L n l : Int} {A B : Int → Int → Int} (h : CB N L n l A B) {s j : Int} (s0 : n ≤ s) (s1 : s < N) (j0 : l ≤ j) (j1 : j < L) (hA : ab (A s j) ≤ 62748517) : B s j = 0 ↔ A s j = 0 := by
  obtain ⟨c, hc, hB⟩ := h
  obtain ⟨b1, b2⟩ := hB s j s0 s1 j0 j1
  constructor
  · intro e
    rw [e, Int.zero_sub] at b1
    rcases euc (Int.dvd_neg.mp b1) with q | q
    · exact absurd q hc
    · exact dv_0 q (by omega)
  · intro e
    rw [e, Int.mul_zero, Int.sub_zero] at b1
    exact dv_0 b1 b2
theorem CB.mono {N L n l l' : Int} {A B : Int → Int → Int} (h : CB N L n l A B) (hl : l ≤ l') : CB N L n l' A B := by
  obtain ⟨c, hc, hB⟩ := h
  exact ⟨c, hc, fun s j s0 s1 j0 j1 => hB s j s0 s1 (by omega) j1⟩
theorem CB.sw {N L n l r : Int} {A B : Int → Int → Int} (h : CB N L n l A B) (hr : n ≤ r ∧ r < N) : CB N L n l (fun s => A (swi n r s)) (fun s => B (swi n r s)) := by
  obtain ⟨c, hc, hB⟩ := h
  exact ⟨c, hc, fun s j s0 s1 j0 j1 => hB _ j (swi_R hr ⟨s0, s1⟩).1 (swi_R hr ⟨s0, s1⟩).2 j0 j1⟩
def pvB (n l : Int) (B : Int → Int → Int) : Int → Int → Int := fun q k => (B q k * B n l - B n k * B q l).tmod 2147483647
theorem tm_p (x : Int) : (2147483647 : Int) ∣ x - x.tmod 2147483647 ∧ ab (x.tmod 2147483647) < 2147483647 := by
  refine ⟨⟨x.tdiv 2147483647, ?_⟩, ?_⟩
  · have := Int.mul_tdiv_add_tmod x 2147483647
    omega
  · unfold ab
    rw [Int.natAbs_tmod]
    have : x.natAbs % (2147483647 : Int).natAbs < 2147483647 := Nat.mod_lt _ (by decide)
    omega
theorem CB.pv {N L n l d : Int} {A A' B : Int → Int → Int} (h : CB N L n l A B) (hn : n < N) (hl : l < L) (hd : d ≠ 0) (hb : ab d ≤ 62748517) (ex : ∀ s j : Int, n < s → s < N → l ≤ j → j < L → A s j * A n l - A n j * A s l = d * A' s j) : CB N L (n + 1) (l + 1) A' (pvB n l B) := by
  obtain ⟨c, hc, hB⟩ := h
  refine ⟨c * c * d, fun q => ?_, fun s j s0 s1 j0 j1 => ?_⟩
  · rcases euc q with q | q
    · rcases euc q with q | q <;> exact hc q
    · exact hd (dv_0 q (by omega))
  · have t := tm_p (B s j * B n l - B n j * B s l)
    refine ⟨?_, t.2⟩
    obtain ⟨u1, h1⟩ := (hB s j (by omega) s1 (by omega) j1).1
    obtain ⟨u2, h2⟩ := (hB n l (Int.le_refl n) hn (Int.le_refl l) hl).1
    obtain ⟨u3, h3⟩ := (hB n j (Int.le_refl n) hn (by omega) j1).1
    obtain ⟨u4, h4⟩ := (hB s l (by omega) s1 (Int.le_refl l) hl).1
    obtain ⟨u5, h5⟩ := t.1
    have h6 := ex s j (by omega) s1 (by omega) j1
    have e1 : B s j = c * A s j + 2147483647 * u1 := by omega
    have e2 : B n l = c * A n l + 2147483647 * u2 := by omega
    have e3 : B n j = c * A n j + 2147483647 * u3 := by omega
    have e4 : B s l = c * A s l + 2147483647 * u4 := by omega
    have e5 : pvB n l B s j = B s j * B n l - B n j * B s l - 2147483647 * u5 := by
      unfold pvB
      omega
    refine ⟨c * A s j * u2 + u1 * c * A n l + 2147483647 * u1 * u2 - (c * A n j * u4 + u3 * c * A s l + 2147483647 * u3 * u4) - u5, ?_⟩
    rw [e5, e1, e2, e3, e4]
    have e7 : c * c * d * A' s j = c * c * (A s j * A n l - A n j * A s l) := by rw [h6]; grind
    rw [e7]
    grind
