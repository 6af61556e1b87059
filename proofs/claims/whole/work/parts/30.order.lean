def swp (f : Int → Int) (a b : Int) : Int → Int := upf (upf f a (f b)) b (f a)
theorem swp_v (f : Int → Int) (a b j : Int) : swp f a b j = if j = b then f a else if j = a then f b else f j := rfl
def rvs : Nat → (Int → Int) → Int → Int → Int → Int
  | 0, f, _, _ => f
  | n + 1, f, lo, hi => if lo < hi then rvs n (swp f lo hi) (lo + 1) (hi - 1) else f
theorem rvs_s (n : Nat) (f : Int → Int) (lo hi : Int) : rvs (n + 1) f lo hi = if lo < hi then rvs n (swp f lo hi) (lo + 1) (hi - 1) else f := rfl
/-- the last place that is not above the one behind it -/
def pk (f : Int → Int) : Nat → Int
  | 0 => -1
  | n + 1 => if f ((n : Int) + 1) < f n then pk f n else n
theorem pk_s (f : Int → Int) (n : Nat) : pk f (n + 1) = if f ((n : Int) + 1) < f n then pk f n else n := rfl
def pm (f : Int → Int) (v a : Int) : Nat → Int
  | 0 => a + 1
  | n + 1 => if f (a + 1 + ((n : Int) + 1)) < v then pm f v a n else a + 1 + ((n : Int) + 1)
theorem pm_s (f : Int → Int) (v a : Int) (n : Nat) : pm f v a (n + 1) = if f (a + 1 + ((n : Int) + 1)) < v then pm f v a n else a + 1 + ((n : Int) + 1) := rfl
def pkL (L : Int) (f : Int → Int) : Int := pk f (L - 1).toNat
def pmL (L : Int) (f : Int → Int) : Int := pm f (f (pkL L f)) (pkL L f) (L - 1 - (pkL L f + 1)).toNat
def nxP (L : Int) (f : Int → Int) : Int → Int := if pkL L f < 0 then f else rvs L.toNat (swp f (pkL L f) (pmL L f)) (pkL L f + 1) (L - 1)
def fac : Nat → Int
  | 0 => 1
  | n + 1 => fac n * ((n : Int) + 1)
theorem fac_s (n : Nat) : fac (n + 1) = fac n * ((n : Int) + 1) := rfl
theorem fac_p : ∀ n : Nat, 1 ≤ fac n
  | 0 => by unfold fac; decide
  | n + 1 => by
    have h := Int.mul_le_mul (fac_p n) (show (1:Int) ≤ (n : Int) + 1 by omega) (by omega) (by have := fac_p n; omega)
    rw [fac_s]
    omega
theorem pk_h (f : Int → Int) : ∀ n : Nat, -1 ≤ pk f n ∧ pk f n < max 1 n ∧ (pk f n < n ∨ pk f n = -1) ∧ (∀ j : Int, pk f n < j → 0 ≤ j → j < n → f (j + 1) < f j) ∧ (0 ≤ pk f n → ¬ f (pk f n + 1) < f (pk f n))
  | 0 => by
    unfold pk
    exact ⟨by decide, by decide, by decide, fun j a b c => by omega, fun q => by omega⟩
  | n + 1 => by
    obtain ⟨h1, h2, h3, h4, h5⟩ := pk_h f n
    rw [pk_s]
    by_cases c : f ((n : Int) + 1) < f n
    · rw [if_pos c]
      refine ⟨h1, by omega, by omega, fun j a b d => ?_, h5⟩
      by_cases e : j = n
      · rw [e]; exact c
      · exact h4 j a b (by omega)
    · rw [if_neg c]
      exact ⟨by omega, by omega, by omega, fun j a b d => by omega, fun _ => c⟩
theorem pm_h (f : Int → Int) (v a : Int) : ∀ n : Nat, a + 1 ≤ pm f v a n ∧ pm f v a n ≤ a + 1 + n ∧ (∀ j : Int, pm f v a n < j → j ≤ a + 1 + n → f j < v) ∧ (pm f v a n = a + 1 ∨ ¬ f (pm f v a n) < v)
  | 0 => by
    unfold pm
    exact ⟨by omega, by omega, fun j p q => by omega, Or.inl rfl⟩
  | n + 1 => by
    obtain ⟨h1, h2, h3, h4⟩ := pm_h f v a n
    rw [pm_s]
    by_cases c : f (a + 1 + ((n : Int) + 1)) < v
    · rw [if_pos c]
      refine ⟨h1, by omega, fun j p q => ?_, h4⟩
      by_cases e : j = a + 1 + ((n : Int) + 1)
      · rw [e]; exact c
      · exact h3 j p (by omega)
    · rw [if_neg c]
      exact ⟨by omega, by omega, fun j p q => by omega, Or.inr c⟩
/-- how many of n from a on are below x -/
def cn (f : Int → Int) (x a : Int) (n : Nat) : Int := sumTo (fun i => if f (a + i) < x then 1 else 0) n
theorem cn_s (f : Int → Int) (x a : Int) (n : Nat) : cn f x a (n + 1) = cn f x a n + (if f (a + n) < x then 1 else 0) := rfl
theorem cn_c {f g : Int → Int} {x a : Int} {n : Nat} (h : ∀ j : Int, a ≤ j → j < a + n → f j = g j) : cn f x a n = cn g x a n := by
  unfold cn
  exact sumTo_c fun i p q => by rw [h (a + i) (by omega) (by omega)]
theorem cn_R (f : Int → Int) (x a : Int) : ∀ n : Nat, 0 ≤ cn f x a n ∧ cn f x a n ≤ n
  | 0 => by unfold cn sumTo; omega
  | n + 1 => by
    have h := cn_R f x a n
    rw [cn_s]
    split <;> omega
theorem cn_e (f : Int → Int) (x a m : Int) : ∀ n : Nat, (a ≤ m) → (∀ j : Int, a ≤ j → j < m → ¬ f j < x) → (∀ j : Int, m ≤ j → j < a + n → f j < x) → cn f x a n = max 0 (a + n - m)
  | 0, h, _, _ => by unfold cn sumTo; omega
  | n + 1, h, h1, h2 => by
    have hz := cn_e f x a m n h h1 (fun j p q => h2 j p (by omega))
    rw [cn_s, hz]
    by_cases c : a + n < m
    · rw [if_neg (h1 _ (by omega) c)]; omega
    · rw [if_pos (h2 _ (by omega) (by omega))]; omega
theorem cn_up {f : Int → Int} {x a p v : Int} : ∀ n : Nat, a ≤ p → cn (upf f p v) x a n = cn f x a n + (if p < a + n then (if v < x then 1 else 0) - (if f p < x then 1 else 0) else 0)
  | 0, h => by unfold cn sumTo; rw [if_neg (by omega)]; rfl
  | n + 1, h => by
    rw [cn_s, cn_s, cn_up n h]
    by_cases e : a + n = p
    · rw [e, upf_at, if_neg (show ¬ p < p by omega), if_pos (show p < a + ((n + 1 : Nat) : Int) by omega)]
      omega
    · rw [upf_o e]
      by_cases z : p < a + n
      · rw [if_pos z, if_pos (show p < a + ((n + 1 : Nat) : Int) by omega)]; omega
      · rw [if_neg z, if_neg (show ¬ p < a + ((n + 1 : Nat) : Int) by omega)]; omega
theorem cn_swp {f : Int → Int} {x a p q : Int} {n : Nat} (hp : a ≤ p ∧ p < a + n) (hq : a ≤ q ∧ q < a + n) : cn (swp f p q) x a n = cn f x a n := by
  unfold swp
  rw [cn_up n hq.1, cn_up n hp.1, if_pos hq.2, if_pos hp.2]
  have : upf f p (f q) q = f q := by unfold upf; split <;> rfl
  rw [this]
  omega
theorem rvs_h : ∀ (n : Nat) (g : Int → Int) (lo hi : Int), hi - lo ≤ 2 * n → (∀ j : Int, ¬ (lo ≤ j ∧ j ≤ hi) → rvs n g lo hi j = g j) ∧ (∀ j : Int, lo ≤ j → j ≤ hi → rvs n g lo hi j = g (lo + hi - j)) ∧ ∀ (x a : Int) (m : Nat), a ≤ lo → hi < a + m → cn (rvs n g lo hi) x a m = cn g x a m
  | 0, g, lo, hi, h => by
    unfold rvs
    exact ⟨fun j _ => rfl, fun j a b => by rw [show lo + hi - j = j by omega], fun x a m _ _ => rfl⟩
  | n + 1, g, lo, hi, h => by
    rw [rvs_s]
    by_cases c : lo < hi
    · rw [if_pos c]
      obtain ⟨h1, h2, h3⟩ := rvs_h n (swp g lo hi) (lo + 1) (hi - 1) (by omega)
      refine ⟨fun j a => ?_, fun j a b => ?_, fun x a m p q => ?_⟩
      · rw [h1 j (by omega), swp_v, if_neg (by omega), if_neg (by omega)]
      · by_cases e1 : j = lo
        · rw [h1 j (by omega), swp_v, if_neg (by omega), if_pos e1, show lo + hi - j = hi by omega]
        · by_cases e2 : j = hi
          · rw [h1 j (by omega), swp_v, if_pos e2, show lo + hi - j = lo by omega]
          · rw [h2 j (by omega) (by omega), swp_v, if_neg (by omega), if_neg (by omega), show lo + 1 + (hi - 1) - j = lo + hi - j by omega]
      · rw [h3 x a m (by omega) (by omega), cn_swp (by omega) (by omega)]
    · rw [if_neg c]
      exact ⟨fun j _ => rfl, fun j a b => by rw [show lo + hi - j = j by omega], fun x a m _ _ => rfl⟩
/-- the place among all orders of the last n -/
def rk (f : Int → Int) (L : Int) : Nat → Int
  | 0 => 0
  | n + 1 => fac n * cn f (f (L - 1 - n)) (L - n) n + rk f L n
theorem rk_s (f : Int → Int) (L : Int) (n : Nat) : rk f L (n + 1) = fac n * cn f (f (L - 1 - n)) (L - n) n + rk f L n := rfl
theorem rk_R (f : Int → Int) (L : Int) : ∀ n : Nat, 0 ≤ rk f L n ∧ rk f L n ≤ fac n - 1
  | 0 => by unfold rk fac; omega
  | n + 1 => by
    have h := rk_R f L n
    have hc := cn_R f (f (L - 1 - n)) (L - n) n
    have hf := fac_p n
    have h1 := Int.mul_le_mul_of_nonneg_left hc.2 (show 0 ≤ fac n by omega)
    have h2 := Int.mul_nonneg (show 0 ≤ fac n by omega) hc.1
    rw [rk_s, fac_s, Int.mul_add, Int.mul_one]
    omega
theorem desc_lt {f : Int → Int} {a b : Int} (h : ∀ j : Int, a ≤ j → j < b → f (j + 1) < f j) : ∀ (d : Nat) (i : Int), a ≤ i → i + d + 1 ≤ b → f (i + d + 1) < f i
  | 0, i, h0, h1 => by
    have := h i h0 (by omega)
    rw [show i + ((0:Nat):Int) + 1 = i + 1 by omega]
    exact this
  | d + 1, i, h0, h1 => by
    have h2 := desc_lt h d i h0 (by omega)
    have h3 := h (i + d + 1) (by omega) (by omega)
    rw [show i + ((d + 1 : Nat) : Int) + 1 = i + d + 1 + 1 by omega]
    omega
theorem desc_of {f : Int → Int} {a b : Int} (h : ∀ j : Int, a ≤ j → j < b → f (j + 1) < f j) {i j : Int} (hi : a ≤ i) (hij : i < j) (hj : j ≤ b) : f j < f i := by
  have := desc_lt h (j - i - 1).toNat i hi (by omega)
  rw [show i + ((j - i - 1).toNat : Int) + 1 = j by omega] at this
  exact this
theorem rk_desc {f : Int → Int} {L : Int} : ∀ n : Nat, (∀ i j : Int, L - n ≤ i → i < j → j < L → f j < f i) → rk f L n = fac n - 1
  | 0, _ => rfl
  | n + 1, h => by
    rw [rk_s, rk_desc n (fun i j a b c => h i j (by omega) b c), cn_e f _ (L - n) (L - n) n (by omega) (fun j a b => by omega) (fun j a b => h _ _ (by omega) (by omega) (by omega)), show max 0 (L - n + n - (L - n)) = (n : Int) by omega, fac_s, Int.mul_add, Int.mul_one]
    omega
theorem rk_asc {f : Int → Int} {L : Int} : ∀ n : Nat, (∀ i j : Int, L - n ≤ i → i < j → j < L → f i < f j) → rk f L n = 0
  | 0, _ => rfl
  | n + 1, h => by
    rw [rk_s, rk_asc n (fun i j a b c => h i j (by omega) b c), cn_e f _ (L - n) L n (by omega) (fun j a b => by have := h (L - 1 - n) j (by omega) (by omega) b; omega) (fun j a b => by omega), show max 0 (L - n + n - L) = (0 : Int) by omega]
    omega
/-- no two labels alike, all small -/
def PO (L : Int) (f : Int → Int) : Prop := (∀ i j : Int, 0 ≤ i → i < L → 0 ≤ j → j < L → f i = f j → i = j) ∧ ∀ j : Int, 0 ≤ j → j < L → 1 ≤ f j ∧ f j ≤ 8
theorem PO_swp {L : Int} {f : Int → Int} {a b : Int} (h : PO L f) (ha : 0 ≤ a ∧ a < L) (hb : 0 ≤ b ∧ b < L) : PO L (swp f a b) := by
  obtain ⟨h1, h2⟩ := h
  refine ⟨fun i j i0 i1 j0 j1 => ?_, fun j j0 j1 => ?_⟩
  · have e1 := h1 i j i0 i1 j0 j1
    have e2 := h1 a b ha.1 ha.2 hb.1 hb.2
    have e3 := h1 a j ha.1 ha.2 j0 j1
    have e4 := h1 i a i0 i1 ha.1 ha.2
    have e5 := h1 b j hb.1 hb.2 j0 j1
    have e6 := h1 i b i0 i1 hb.1 hb.2
    rw [swp_v, swp_v]
    (repeat' split) <;> omega
  · have e1 := h2 j j0 j1
    have e2 := h2 a ha.1 ha.2
    have e3 := h2 b hb.1 hb.2
    rw [swp_v]
    (repeat' split) <;> omega
theorem PO_rvs {L : Int} : ∀ (n : Nat) (f : Int → Int) (lo hi : Int), PO L f → 0 ≤ lo → hi < L → PO L (rvs n f lo hi)
  | 0, f, lo, hi, h, _, _ => h
  | n + 1, f, lo, hi, h, h0, h1 => by
    rw [rvs_s]
    by_cases c : lo < hi
    · rw [if_pos c]
      exact PO_rvs n _ _ _ (PO_swp h (by omega) (by omega)) (by omega) (by omega)
    · rw [if_neg c]
      exact h
theorem pkL_h {L : Int} (hL : 0 ≤ L) (f : Int → Int) : -1 ≤ pkL L f ∧ (pkL L f = -1 ∨ pkL L f + 1 < L) ∧ (∀ j : Int, pkL L f < j → 0 ≤ j → j < L - 1 → f (j + 1) < f j) ∧ (0 ≤ pkL L f → ¬ f (pkL L f + 1) < f (pkL L f)) := by
  obtain ⟨h1, h2, h3, h4, h5⟩ := pk_h f (L - 1).toNat
  unfold pkL
  exact ⟨h1, by omega, fun j a b c => h4 j a b (by omega), h5⟩
theorem pmL_h {L : Int} (f : Int → Int) (hk : 0 ≤ pkL L f ∧ pkL L f + 1 < L) : pkL L f + 1 ≤ pmL L f ∧ pmL L f < L ∧ (∀ j : Int, pmL L f < j → j < L → f j < f (pkL L f)) ∧ (pmL L f = pkL L f + 1 ∨ ¬ f (pmL L f) < f (pkL L f)) := by
  obtain ⟨h1, h2, h3, h4⟩ := pm_h f (f (pkL L f)) (pkL L f) (L - 1 - (pkL L f + 1)).toNat
  unfold pmL
  exact ⟨h1, by omega, fun j a b => h3 j a (by omega), h4⟩
theorem PO_nx {L : Int} {f : Int → Int} (hL : 0 ≤ L) (h : PO L f) : PO L (nxP L f) := by
  obtain ⟨k1, k2, k3, k4⟩ := pkL_h hL f
  unfold nxP
  by_cases c : pkL L f < 0
  · rw [if_pos c]; exact h
  · rw [if_neg c]
    obtain ⟨m1, m2, m3, m4⟩ := pmL_h f (L := L) (by omega)
    exact PO_rvs _ _ _ _ (PO_swp h (by omega) (by omega)) (by omega) (by omega)
theorem rk_last {L : Int} {f : Int → Int} (hL : 0 ≤ L) (h : pkL L f < 0) : rk f L L.toNat = fac L.toNat - 1 := by
  obtain ⟨k1, k2, k3, k4⟩ := pkL_h hL f
  exact rk_desc _ fun i j a b c => desc_of (a := 0) (b := L - 1) (fun j p q => k3 j (by omega) p q) (by omega) b (by omega)
theorem rk_next {L : Int} {f : Int → Int} (hL : 0 ≤ L) (hP : PO L f) (h : 0 ≤ pkL L f) : rk (nxP L f) L L.toNat = rk f L L.toNat + 1 := by
  obtain ⟨k1, k2, k3, k4⟩ := pkL_h hL f
  obtain ⟨m1, m2, m3, m4⟩ := pmL_h f (L := L) (by omega)
  have k4 := k4 h
  obtain ⟨hi, -⟩ := hP
  unfold nxP
  rw [if_neg (by omega)]
  generalize hk : pkL L f = k at *
  generalize hm : pmL L f = m at *
  obtain ⟨v1, v2, v3⟩ := rvs_h L.toNat (swp f k m) (k + 1) (L - 1) (by omega)
  generalize hh : rvs L.toNat (swp f k m) (k + 1) (L - 1) = g at *
  have fd : ∀ i j : Int, k + 1 ≤ i → i < j → j < L → f j < f i := fun i j a b c => desc_of (a := k + 1) (b := L - 1) (fun j p q => k3 j (by omega) (by omega) q) a b (by omega)
  have hkm : f k < f m := by
    have e := hi k m (by omega) (by omega) (by omega) m2
    rcases m4 with q | q
    · rw [q] at e ⊢; omega
    · omega
  have sd' : ∀ i j : Int, k + 1 ≤ i → i < j → j < L → swp f k m j < swp f k m i := by
    intro i j a b c
    have e := fd i j a b c
    rw [swp_v, swp_v]
    by_cases ej : j = m
    · rw [if_pos ej, if_neg (by omega), if_neg (by omega)]
      rw [ej] at e; omega
    · rw [if_neg ej, if_neg (by omega)]
      by_cases ei : i = m
      · rw [if_pos ei]
        exact m3 j (by omega) c
      · rw [if_neg ei, if_neg (by omega)]
        exact e
  have ga : ∀ i j : Int, k + 1 ≤ i → i < j → j < L → g i < g j := by
    intro i j a b c
    rw [v2 i a (by omega), v2 j (by omega) (by omega)]
    exact sd' _ _ (by omega) (by omega) (by omega)
  have gk : g k = f m := by
    rw [v1 k (by omega), swp_v, if_neg (by omega), if_pos rfl]
  have gl : ∀ j : Int, j < k → g j = f j := fun j a => by
    rw [v1 j (by omega), swp_v, if_neg (by omega), if_neg (by omega)]
  have base : rk g L ((L - 1 - k).toNat + 1) = rk f L ((L - 1 - k).toNat + 1) + 1 := by
    have en : L - 1 - ((L - 1 - k).toNat : Int) = k := by omega
    have en2 : L - ((L - 1 - k).toNat : Int) = k + 1 := by omega
    rw [rk_s, rk_s, rk_asc _ (fun i j a b c => ga i j (by omega) b c), rk_desc _ (fun i j a b c => fd i j (by omega) b c), en, en2, gk,
      v3 _ _ _ (by omega) (by omega), cn_e (swp f k m) _ (k + 1) m _ (by omega) (fun j a b => ?_) (fun j a b => ?_), cn_e f _ (k + 1) (m + 1) _ (by omega) (fun j a b => ?_) (fun j a b => m3 j (by omega) (by omega))]
    · rw [show max 0 (k + 1 + ((L - 1 - k).toNat : Int) - m) = max 0 (k + 1 + ((L - 1 - k).toNat : Int) - (m + 1)) + 1 by omega, Int.mul_add, Int.mul_one]
      omega
    · by_cases e : j = m
      · rw [e]; omega
      · have := fd j m a (by omega) m2
        omega
    · rw [swp_v, if_neg (by omega), if_neg (by omega)]
      have := fd j m a b m2
      omega
    · rw [swp_v]
      by_cases e : j = m
      · rw [if_pos e]; exact hkm
      · rw [if_neg e, if_neg (by omega)]
        have := m3 j (by omega) (by omega)
        omega
  have up : ∀ d : Nat, (L - 1 - k).toNat + 1 + d ≤ L.toNat → rk g L ((L - 1 - k).toNat + 1 + d) = rk f L ((L - 1 - k).toNat + 1 + d) + 1 := by
    intro d
    induction d with
    | zero => intro _; exact base
    | succ d ih =>
      intro hd
      rw [show (L - 1 - k).toNat + 1 + (d + 1) = (L - 1 - k).toNat + 1 + d + 1 by omega, rk_s, rk_s, ih (by omega), gl _ (by omega), v3 _ _ _ (by omega) (by omega), cn_swp (by omega) (by omega)]
      omega
  have := up (L.toNat - ((L - 1 - k).toNat + 1)) (by omega)
  rw [show (L - 1 - k).toNat + 1 + (L.toNat - ((L - 1 - k).toNat + 1)) = L.toNat by omega] at this
  exact this
theorem nxP_v {L : Int} {f : Int → Int} (hL : 0 ≤ L) (hP : PO L f) : (rk f L L.toNat + 1 < fac L.toNat ∧ rk (nxP L f) L L.toNat = rk f L L.toNat + 1 ∧ 0 ≤ pkL L f) ∨ (rk f L L.toNat + 1 = fac L.toNat ∧ pkL L f < 0) := by
  by_cases c : pkL L f < 0
  · exact Or.inr ⟨by have := rk_last hL c; omega, c⟩
  · have h := rk_next hL hP (by omega)
    have h2 := rk_R (nxP L f) L L.toNat
    exact Or.inl ⟨by omega, h, by omega⟩
theorem PO_0 {L : Int} (hL : L ≤ 8) : PO L (fun j => j + 1) := ⟨fun i j _ _ _ _ h => by dsimp only at h; omega, fun j a b => by dsimp only; omega⟩
theorem rk_0 (L : Int) (n : Nat) : rk (fun j => j + 1) L n = 0 := rk_asc n (fun i j _ b _ => by omega)
