noncomputable def bP (P : Prop) : Int := @ite Int P (Classical.propDecidable P) 1 0
theorem bP_t {P : Prop} (h : P) : bP P = 1 := @if_pos P (Classical.propDecidable P) h Int 1 0
theorem bP_f {P : Prop} (h : ¬ P) : bP P = 0 := @if_neg P (Classical.propDecidable P) h Int 1 0
theorem bP_01 (P : Prop) : bP P = 0 ∨ bP P = 1 := (Classical.em P).elim (fun h => Or.inr (bP_t h)) (fun h => Or.inl (bP_f h))
theorem bP_R (P : Prop) : inR (bP P) := by
  rcases bP_01 P with h | h <;> rw [h] <;> decide
theorem bP_1 {P : Prop} : bP P = 1 ↔ P := ⟨fun h => Classical.byContradiction fun q => by rw [bP_f q] at h; omega, bP_t⟩
theorem bP_0 {P : Prop} : bP P = 0 ↔ ¬ P := ⟨fun h q => by rw [bP_t q] at h; omega, bP_f⟩
theorem bP_c {P Q : Prop} (h : P ↔ Q) : bP P = bP Q := by rw [propext h]
def likeP (f : Int → Int) (n : Int) : Prop := ∀ i : Int, 0 ≤ i → i < n → f i = f 0
def unlikeP (f : Int → Int) (n : Int) : Prop := ∀ i j : Int, 0 ≤ i → i < j → j < n → f i ≠ f j
def risingP (f : Int → Int) (n : Int) : Prop := ∀ i : Int, 1 ≤ i → i < n → f (i - 1) < f i
def evenP (f : Int → Int) (n : Int) : Prop := ∀ i : Int, 0 ≤ i → i < n → f i % 2 = 0
def noneP (m : Int) (f : Int → Int) (n : Int) : Prop := ∀ i : Int, 0 ≤ i → i < n → f i ≤ m
def ruleP (r : Int) (f : Int → Int) (n : Int) : Prop := if r = 0 then likeP f n else if r = 1 then unlikeP f n else if r = 2 then risingP f n else if r = 3 then evenP f n else if r = 4 then noneP (2 * n) f n else ¬ likeP f n ∧ ¬ unlikeP f n
theorem likeP_c {f g : Int → Int} {n : Int} (h : ∀ i, 0 ≤ i → i < n → f i = g i) : likeP f n ↔ likeP g n := by
  constructor
  · intro q i h0 h1
    rw [← h i h0 h1, ← h 0 (by omega) (by omega)]
    exact q i h0 h1
  · intro q i h0 h1
    rw [h i h0 h1, h 0 (by omega) (by omega)]
    exact q i h0 h1
theorem unlikeP_c {f g : Int → Int} {n : Int} (h : ∀ i, 0 ≤ i → i < n → f i = g i) : unlikeP f n ↔ unlikeP g n := by
  constructor
  · intro q i j h0 h1 h2
    rw [← h i h0 (by omega), ← h j (by omega) h2]
    exact q i j h0 h1 h2
  · intro q i j h0 h1 h2
    rw [h i h0 (by omega), h j (by omega) h2]
    exact q i j h0 h1 h2
theorem risingP_c {f g : Int → Int} {n : Int} (h : ∀ i, 0 ≤ i → i < n → f i = g i) : risingP f n ↔ risingP g n := by
  constructor
  · intro q i h0 h1
    rw [← h i (by omega) h1, ← h (i - 1) (by omega) (by omega)]
    exact q i h0 h1
  · intro q i h0 h1
    rw [h i (by omega) h1, h (i - 1) (by omega) (by omega)]
    exact q i h0 h1
theorem evenP_c {f g : Int → Int} {n : Int} (h : ∀ i, 0 ≤ i → i < n → f i = g i) : evenP f n ↔ evenP g n := by
  constructor
  · intro q i h0 h1
    rw [← h i (by omega) h1]
    exact q i h0 h1
  · intro q i h0 h1
    rw [h i (by omega) h1]
    exact q i h0 h1
theorem noneP_c {m : Int} {f g : Int → Int} {n : Int} (h : ∀ i, 0 ≤ i → i < n → f i = g i) : noneP m f n ↔ noneP m g n := by
  constructor
  · intro q i h0 h1
    rw [← h i (by omega) h1]
    exact q i h0 h1
  · intro q i h0 h1
    rw [h i (by omega) h1]
    exact q i h0 h1
theorem ruleP_c {r : Int} {f g : Int → Int} {n : Int} (h : ∀ i, 0 ≤ i → i < n → f i = g i) : ruleP r f n ↔ ruleP r g n := by
  unfold ruleP
  rw [likeP_c h, unlikeP_c h, risingP_c h, evenP_c h, noneP_c h]
def mnTo (f : Int → Int) : Nat → Int
  | 0 => f 0
  | n + 1 => min (mnTo f n) (f (n + 1))
def mxTo (f : Int → Int) : Nat → Int
  | 0 => f 0
  | n + 1 => max (mxTo f n) (f (n + 1))
theorem iand_R (x y : Int) : inR (iand x y) := ⟨by have := (Int32.ofInt x &&& Int32.ofInt y).le_toInt; unfold iand; omega, by have := (Int32.ofInt x &&& Int32.ofInt y).toInt_lt; unfold iand; omega⟩
theorem nI_ofInt (n : Nat) : nI n = Int32.ofInt n := Int32.ofInt_eq_ofNat.symm
theorem tbn (x : Int) : ((Int32.ofInt x).toBitVec.toNat : Int) = x % 4294967296 := by
  rw [show (Int32.ofInt x).toBitVec = BitVec.ofInt 32 x from rfl, BitVec.toNat_ofInt]
  omega
theorem iand_m {x m : Int} (k : Nat) (hk : (Int32.ofInt m).toBitVec.toNat = 2 ^ k - 1) (h31 : k ≤ 31) : iand x m = x % (2 ^ k : Nat) := by
  unfold iand
  rw [pk_and _ k hk, nI_ofInt]
  have h1 := tbn x
  have h2 : (Int32.ofInt x).toBitVec.toNat % 2 ^ k < 2 ^ k := Nat.mod_lt _ (Nat.two_pow_pos k)
  have h3 : 2 ^ k ≤ 2 ^ 31 := Nat.pow_le_pow_right (by decide) h31
  rw [n_toInt ⟨by omega, by omega⟩]
  have h5 : ((2 ^ k : Nat) : Int) ∣ 4294967296 := by
    refine ⟨((2 ^ (32 - k) : Nat) : Int), ?_⟩
    rw [← Int.natCast_mul, ← Nat.pow_add, show k + (32 - k) = 32 by omega]
    rfl
  rw [Int.natCast_emod, h1, Int.emod_emod_of_dvd _ h5]
theorem iand_1 (x : Int) : iand x 1 = x % 2 := by
  have := iand_m (x := x) (m := 1) 1 (by decide) (by decide)
  exact this
set_option maxHeartbeats 4000000 in
theorem c_X5_allLike {V : Wd} {σ : St} {k N : Nat} {n : Int} (hk : k < NC) (hE : lay k = iE N) (hN : N < 2147483648) (hn : 1 ≤ n ∧ n ≤ N) (hR : ∀ i, 0 ≤ i → i < n → inR (σ k i)) : Ct V yX5_allLike cX5_allLike 3 (some .boolean) 0 0 [rv V k, iv n] σ (PI (fun r τ => r = bP (likeP (σ k) n) ∧ τ = σ)) := by
  refine ct_of (by decide) (Nat.le_of_ble_eq_true rfl) (fun X G T => ?_)
  have G : Gd X V cX5_allLike RX5 3 0 0 := G
  show AW X V σ 0 [] [some (rv V k), some (iv n), none]
  have loop : ∀ (n0 : Nat) (i : Int), (1 ≤ i ∧ i ≤ n) → (n < i + (n0 : Int)) → (∀ j, 0 ≤ j → j < i → σ k j = σ k 0) → AW X V (σ) 2 [] [some (rv V k), some (iv n), some (iv i)] := by
    intro n0
    induction n0 with
    | zero =>
      intro i h0 h1 hq
      exfalso
      omega
    | succ n0 ih =>
      intro i h0 h1 hq
      refine aw_iload_n G dX5_allLike_2 rfl ?_
      refine aw_iload_n G dX5_allLike_3 rfl ?_
      refine aw_icmp_ge (tgt := 24) G dX5_allLike_4 (by decide) (by omega) (by omega) (fun c4 => ?_) (fun c4 => ?_)
      · refine aw_iconst G dX5_allLike_24 ?_
        exact aw_zret G T dX5_allLike_25 (by first | exact Or.inl rfl | exact Or.inr rfl | assumption) (⟨(bP_t fun j a b => hq j a (by omega)).symm, rfl⟩)
      · refine aw_aload_n G dX5_allLike_7 rfl ?_
        refine aw_iload_n G dX5_allLike_8 rfl ?_
        refine aw_iaload G dX5_allLike_9 (by first | decide | assumption | omega) (by first | rfl | assumption) (by first | decide | assumption) (by omega) ?_
        refine aw_aload_n G dX5_allLike_10 rfl ?_
        refine aw_iconst G dX5_allLike_11 ?_
        refine aw_iaload G dX5_allLike_12 (by first | decide | assumption | omega) (by first | rfl | assumption) (by first | decide | assumption) (by omega) ?_
        refine aw_icmp_eq (tgt := 18) G dX5_allLike_13 (by decide) (by exact hR _ (by omega) (by omega)) (by exact hR _ (by omega) (by omega)) (fun c13 => ?_) (fun c13 => ?_)
        · refine aw_iinc_2 G dX5_allLike_18 rfl (k := ?_)
          refine aw_goto (tgt := 2) G dX5_allLike_21 (by decide) ?_
          exact ih (i + 1) (by omega) (by omega) (fun j a b => if e : j = i then by rw [e]; exact c13 else hq j a (by omega))
        · refine aw_iconst G dX5_allLike_16 ?_
          exact aw_zret G T dX5_allLike_17 (by first | exact Or.inl rfl | exact Or.inr rfl | assumption) (⟨(bP_f fun q => c13 (q i (by omega) (by omega))).symm, rfl⟩)
  refine aw_iconst G dX5_allLike_0 ?_
  refine aw_istore_2 G dX5_allLike_1 (k := ?_)
  exact loop (n.toNat + 1) 1 (by omega) (by omega) (fun j a b => by rw [show j = 0 by omega])
set_option maxHeartbeats 4000000 in
theorem c_X5_allRising {V : Wd} {σ : St} {k N : Nat} {n : Int} (hk : k < NC) (hE : lay k = iE N) (hN : N < 2147483648) (hn : 1 ≤ n ∧ n ≤ N) (hR : ∀ i, 0 ≤ i → i < n → inR (σ k i)) : Ct V yX5_allRising cX5_allRising 3 (some .boolean) 0 0 [rv V k, iv n] σ (PI (fun r τ => r = bP (risingP (σ k) n) ∧ τ = σ)) := by
  refine ct_of (by decide) (Nat.le_of_ble_eq_true rfl) (fun X G T => ?_)
  have G : Gd X V cX5_allRising RX5 3 0 0 := G
  show AW X V σ 0 [] [some (rv V k), some (iv n), none]
  have loop : ∀ (n0 : Nat) (i : Int), (1 ≤ i ∧ i ≤ n) → (n < i + (n0 : Int)) → (∀ j, 1 ≤ j → j < i → σ k (j - 1) < σ k j) → AW X V (σ) 2 [] [some (rv V k), some (iv n), some (iv i)] := by
    intro n0
    induction n0 with
    | zero =>
      intro i h0 h1 hq
      exfalso
      omega
    | succ n0 ih =>
      intro i h0 h1 hq
      refine aw_iload_n G dX5_allRising_2 rfl ?_
      refine aw_iload_n G dX5_allRising_3 rfl ?_
      refine aw_icmp_ge (tgt := 26) G dX5_allRising_4 (by decide) (by omega) (by omega) (fun c4 => ?_) (fun c4 => ?_)
      · refine aw_iconst G dX5_allRising_26 ?_
        exact aw_zret G T dX5_allRising_27 (by first | exact Or.inl rfl | exact Or.inr rfl | assumption) (⟨(bP_t fun j a b => hq j a (by omega)).symm, rfl⟩)
      · refine aw_aload_n G dX5_allRising_7 rfl ?_
        refine aw_iload_n G dX5_allRising_8 rfl ?_
        refine aw_iaload G dX5_allRising_9 (by first | decide | assumption | omega) (by first | rfl | assumption) (by first | decide | assumption) (by omega) ?_
        refine aw_aload_n G dX5_allRising_10 rfl ?_
        refine aw_iload_n G dX5_allRising_11 rfl ?_
        refine aw_iconst G dX5_allRising_12 ?_
        refine aw_isub G dX5_allRising_13 ?_
        refine aw_iaload G dX5_allRising_14 (by first | decide | assumption | omega) (by first | rfl | assumption) (by first | decide | assumption) (by omega) ?_
        refine aw_icmp_gt (tgt := 20) G dX5_allRising_15 (by decide) (by exact hR _ (by omega) (by omega)) (by exact hR _ (by omega) (by omega)) (fun c15 => ?_) (fun c15 => ?_)
        · refine aw_iinc_2 G dX5_allRising_20 rfl (k := ?_)
          refine aw_goto (tgt := 2) G dX5_allRising_23 (by decide) ?_
          exact ih (i + 1) (by omega) (by omega) (fun j a b => if e : j = i then by rw [e]; exact c15 else hq j a (by omega))
        · refine aw_iconst G dX5_allRising_18 ?_
          exact aw_zret G T dX5_allRising_19 (by first | exact Or.inl rfl | exact Or.inr rfl | assumption) (⟨(bP_f fun q => c15 (q i (by omega) (by omega))).symm, rfl⟩)
  refine aw_iconst G dX5_allRising_0 ?_
  refine aw_istore_2 G dX5_allRising_1 (k := ?_)
  exact loop (n.toNat + 1) 1 (by omega) (by omega) (fun j a b => by omega)
set_option maxHeartbeats 4000000 in
theorem c_X5_allEven {V : Wd} {σ : St} {k N : Nat} {n : Int} (hk : k < NC) (hE : lay k = iE N) (hN : N < 2147483648) (hn : 1 ≤ n ∧ n ≤ N) (hR : ∀ i, 0 ≤ i → i < n → inR (σ k i)) : Ct V yX5_allEven cX5_allEven 3 (some .boolean) 0 0 [rv V k, iv n] σ (PI (fun r τ => r = bP (evenP (σ k) n) ∧ τ = σ)) := by
  refine ct_of (by decide) (Nat.le_of_ble_eq_true rfl) (fun X G T => ?_)
  have G : Gd X V cX5_allEven RX5 3 0 0 := G
  show AW X V σ 0 [] [some (rv V k), some (iv n), none]
  have loop : ∀ (n0 : Nat) (i : Int), (0 ≤ i ∧ i ≤ n) → (n < i + (n0 : Int)) → (∀ j, 0 ≤ j → j < i → σ k j % 2 = 0) → AW X V (σ) 2 [] [some (rv V k), some (iv n), some (iv i)] := by
    intro n0
    induction n0 with
    | zero =>
      intro i h0 h1 hq
      exfalso
      omega
    | succ n0 ih =>
      intro i h0 h1 hq
      refine aw_iload_n G dX5_allEven_2 rfl ?_
      refine aw_iload_n G dX5_allEven_3 rfl ?_
      refine aw_icmp_ge (tgt := 23) G dX5_allEven_4 (by decide) (by omega) (by omega) (fun c4 => ?_) (fun c4 => ?_)
      · refine aw_iconst G dX5_allEven_23 ?_
        exact aw_zret G T dX5_allEven_24 (by first | exact Or.inl rfl | exact Or.inr rfl | assumption) (⟨(bP_t fun j a b => hq j a (by omega)).symm, rfl⟩)
      · refine aw_aload_n G dX5_allEven_7 rfl ?_
        refine aw_iload_n G dX5_allEven_8 rfl ?_
        refine aw_iaload G dX5_allEven_9 (by first | decide | assumption | omega) (by first | rfl | assumption) (by first | decide | assumption) (by omega) ?_
        refine aw_iconst G dX5_allEven_10 ?_
        refine aw_iand G dX5_allEven_11 ?_
        refine aw_if_eq (tgt := 17) G dX5_allEven_12 (by decide) (iand_R _ _) (fun c12 => ?_) (fun c12 => ?_)
        · refine aw_iinc_2 G dX5_allEven_17 rfl (k := ?_)
          refine aw_goto (tgt := 2) G dX5_allEven_20 (by decide) ?_
          rw [iand_1] at c12
          exact ih (i + 1) (by omega) (by omega) (fun j a b => if e : j = i then by rw [e]; exact c12 else hq j a (by omega))
        · refine aw_iconst G dX5_allEven_15 ?_
          exact aw_zret G T dX5_allEven_16 (by first | exact Or.inl rfl | exact Or.inr rfl | assumption) (⟨(bP_f fun q => c12 (by rw [iand_1]; exact q i (by omega) (by omega))).symm, rfl⟩)
  refine aw_iconst G dX5_allEven_0 ?_
  refine aw_istore_2 G dX5_allEven_1 (k := ?_)
  exact loop (n.toNat + 1) 0 (by omega) (by omega) (fun j a b => by omega)
set_option maxHeartbeats 4000000 in
theorem c_X5_noneAbove {V : Wd} {σ : St} {k N : Nat} {m n : Int} (hk : k < NC) (hE : lay k = iE N) (hN : N < 2147483648) (hn : 1 ≤ n ∧ n ≤ N) (hR : ∀ i, 0 ≤ i → i < n → inR (σ k i)) (hm : inR m) : Ct V yX5_noneAbove cX5_noneAbove 4 (some .boolean) 0 0 [iv m, rv V k, iv n] σ (PI (fun r τ => r = bP (noneP m (σ k) n) ∧ τ = σ)) := by
  refine ct_of (by decide) (Nat.le_of_ble_eq_true rfl) (fun X G T => ?_)
  have G : Gd X V cX5_noneAbove RX5 4 0 0 := G
  show AW X V σ 0 [] [some (iv m), some (rv V k), some (iv n), none]
  have loop : ∀ (n0 : Nat) (i : Int), (0 ≤ i ∧ i ≤ n) → (n < i + (n0 : Int)) → (∀ j, 0 ≤ j → j < i → σ k j ≤ m) → AW X V (σ) 2 [] [some (iv m), some (rv V k), some (iv n), some (iv i)] := by
    intro n0
    induction n0 with
    | zero =>
      intro i h0 h1 hq
      exfalso
      omega
    | succ n0 ih =>
      intro i h0 h1 hq
      refine aw_iload_n G dX5_noneAbove_2 rfl ?_
      refine aw_iload_n G dX5_noneAbove_3 rfl ?_
      refine aw_icmp_ge (tgt := 22) G dX5_noneAbove_4 (by decide) (by omega) (by omega) (fun c4 => ?_) (fun c4 => ?_)
      · refine aw_iconst G dX5_noneAbove_22 ?_
        exact aw_zret G T dX5_noneAbove_23 (by first | exact Or.inl rfl | exact Or.inr rfl | assumption) (⟨(bP_t fun j a b => hq j a (by omega)).symm, rfl⟩)
      · refine aw_aload_n G dX5_noneAbove_7 rfl ?_
        refine aw_iload_n G dX5_noneAbove_8 rfl ?_
        refine aw_iaload G dX5_noneAbove_9 (by first | decide | assumption | omega) (by first | rfl | assumption) (by first | decide | assumption) (by omega) ?_
        refine aw_iload_n G dX5_noneAbove_10 rfl ?_
        refine aw_icmp_le (tgt := 16) G dX5_noneAbove_11 (by decide) (by exact hR _ (by omega) (by omega)) (hm) (fun c11 => ?_) (fun c11 => ?_)
        · refine aw_iinc_3 G dX5_noneAbove_16 rfl (k := ?_)
          refine aw_goto (tgt := 2) G dX5_noneAbove_19 (by decide) ?_
          exact ih (i + 1) (by omega) (by omega) (fun j a b => if e : j = i then by rw [e]; exact c11 else hq j a (by omega))
        · refine aw_iconst G dX5_noneAbove_14 ?_
          exact aw_zret G T dX5_noneAbove_15 (by first | exact Or.inl rfl | exact Or.inr rfl | assumption) (⟨(bP_f fun q => c11 (q i (by omega) (by omega))).symm, rfl⟩)
  refine aw_iconst G dX5_noneAbove_0 ?_
  refine aw_istore_3 G dX5_noneAbove_1 (k := ?_)
  exact loop (n.toNat + 1) 0 (by omega) (by omega) (fun j a b => by omega)
set_option maxHeartbeats 4000000 in
theorem c_X5_allUnlike {V : Wd} {σ : St} {k N : Nat} {n : Int} (hk : k < NC) (hE : lay k = iE N) (hN : N < 2147483648) (hn : 1 ≤ n ∧ n ≤ N) (hR : ∀ i, 0 ≤ i → i < n → inR (σ k i)) : Ct V yX5_allUnlike cX5_allUnlike 5 (some .boolean) 0 0 [rv V k, iv n] σ (PI (fun r τ => r = bP (unlikeP (σ k) n) ∧ τ = σ)) := by
  refine ct_of (by decide) (Nat.le_of_ble_eq_true rfl) (fun X G T => ?_)
  have G : Gd X V cX5_allUnlike RX5 5 0 0 := G
  show AW X V σ 0 [] [some (rv V k), some (iv n), none, none, none]
  have loop : ∀ (n0 : Nat) (i : Int) (u v : Option Value), (1 ≤ i ∧ i ≤ n) → (n < i + (n0 : Int)) → (lcat u = 1) → (∀ a b, 0 ≤ a → a < b → b < i → σ k a ≠ σ k b) → AW X V (σ) 2 [] [some (rv V k), some (iv n), some (iv i), u, v] := by
    intro n0
    induction n0 with
    | zero =>
      intro i u v h0 h1 hu hq
      exfalso
      omega
    | succ n0 ih =>
      intro i u v h0 h1 hu hq
      refine aw_iload_n G dX5_allUnlike_2 rfl ?_
      refine aw_iload_n G dX5_allUnlike_3 rfl ?_
      refine aw_icmp_ge (tgt := 42) G dX5_allUnlike_4 (by decide) (by omega) (by omega) (fun c4 => ?_) (fun c4 => ?_)
      · refine aw_iconst G dX5_allUnlike_42 ?_
        exact aw_zret G T dX5_allUnlike_43 (by first | exact Or.inl rfl | exact Or.inr rfl | assumption) (⟨(bP_t fun a b p q s => hq a b p q (by omega)).symm, rfl⟩)
      · refine aw_aload_n G dX5_allUnlike_7 rfl ?_
        refine aw_iload_n G dX5_allUnlike_8 rfl ?_
        refine aw_iaload G dX5_allUnlike_9 (by first | decide | assumption | omega) (by first | rfl | assumption) (by first | decide | assumption) (by omega) ?_
        refine aw_istore_3 G dX5_allUnlike_10 (k := ?_)
        refine aw_iconst G dX5_allUnlike_11 ?_
        refine aw_istore_4 G dX5_allUnlike_12 (k := ?_)
        have inner : ∀ (n1 : Nat) (j : Int), (0 ≤ j ∧ j ≤ i ∧ i < n) → (i < j + (n1 : Int)) → (∀ a, 0 ≤ a → a < j → σ k a ≠ σ k i) → AW X V (σ) 14 [] [some (rv V k), some (iv n), some (iv i), some (iv (σ k i)), some (iv j)] := by
          intro n1
          induction n1 with
          | zero =>
            intro j g0 g1 gq
            exfalso
            omega
          | succ n1 ih1 =>
            intro j g0 g1 gq
            refine aw_iload G dX5_allUnlike_14 rfl ?_
            refine aw_iload_n G dX5_allUnlike_16 rfl ?_
            refine aw_icmp_ge (tgt := 36) G dX5_allUnlike_17 (by decide) (by omega) (by omega) (fun c17 => ?_) (fun c17 => ?_)
            · refine aw_iinc_2 G dX5_allUnlike_36 rfl (k := ?_)
              refine aw_goto (tgt := 2) G dX5_allUnlike_39 (by decide) ?_
              exact ih (i + 1) _ _ (by omega) (by omega) rfl (fun a b p q s => if e : b = i then by rw [e]; exact gq a p (by omega) else hq a b p q (by omega))
            · refine aw_aload_n G dX5_allUnlike_20 rfl ?_
              refine aw_iload G dX5_allUnlike_21 rfl ?_
              refine aw_iaload G dX5_allUnlike_23 (by first | decide | assumption | omega) (by first | rfl | assumption) (by first | decide | assumption) (by omega) ?_
              refine aw_iload_n G dX5_allUnlike_24 rfl ?_
              refine aw_icmp_ne (tgt := 30) G dX5_allUnlike_25 (by decide) (by exact hR _ (by omega) (by omega)) (by exact hR _ (by omega) (by omega)) (fun c25 => ?_) (fun c25 => ?_)
              · refine aw_iinc_4 G dX5_allUnlike_30 rfl (k := ?_)
                refine aw_goto (tgt := 14) G dX5_allUnlike_33 (by decide) ?_
                exact ih1 (j + 1) (by omega) (by omega) (fun a p q => if e : a = j then by rw [e]; exact c25 else gq a p (by omega))
              · refine aw_iconst G dX5_allUnlike_28 ?_
                exact aw_zret G T dX5_allUnlike_29 (by first | exact Or.inl rfl | exact Or.inr rfl | assumption) (⟨(bP_f fun q => q j i (by omega) (by omega) (by omega) c25).symm, rfl⟩)
        exact inner (i.toNat + 1) 0 (by omega) (by omega) (fun a p q => by omega)
  refine aw_iconst G dX5_allUnlike_0 ?_
  refine aw_istore_2 G dX5_allUnlike_1 (k := ?_)
  exact loop (n.toNat + 1) 1 _ _ (by omega) (by omega) rfl (fun a b p q s => by omega)
set_option maxHeartbeats 4000000 in
theorem c_X5_holds {V : Wd} {σ : St} {k N : Nat} {ru n : Int} (hk : k < NC) (hE : lay k = iE N) (hN : N < 2147483648) (hn : 1 ≤ n ∧ n ≤ N) (hR : ∀ i, 0 ≤ i → i < n → inR (σ k i)) (hr : inR ru) (hn2 : n ≤ 1000000) : Ct V yX5_holds cX5_holds 3 (some .boolean) 1 24 [iv ru, rv V k, iv n] σ (PI (fun r τ => r = bP (ruleP ru (σ k) n) ∧ τ = σ)) := by
  refine ct_of (by decide) (Nat.le_of_ble_eq_true rfl) (fun X G T => ?_)
  have G : Gd X V cX5_holds RX5 3 1 24 := G
  show AW X V σ 0 [] [some (iv ru), some (rv V k), some (iv n)]
  refine aw_iload_n G dX5_holds_0 rfl ?_
  by_cases s1_0 : ru = 0
  · refine aw_tswIn (off := 35) (tgt := 36) G dX5_holds_1 (by omega) (by omega) (by omega) (by rw [s1_0]; rfl) (by decide) ?_
    refine aw_aload_n G dX5_holds_36 rfl ?_
    refine aw_iload_n G dX5_holds_37 rfl ?_
    refine cs_X5_9 G dX5_holds_38 (c_X5_allLike hk hE hN hn hR) (kk := fun r38 t38 h38 => ?_)
    obtain ⟨rfl, rfl⟩ := h38
    exact aw_zret G T dX5_holds_41 (bP_01 _) (⟨bP_c (by unfold ruleP; simp [s1_0]), rfl⟩)
  by_cases s1_1 : ru = 1
  · refine aw_tswIn (off := 41) (tgt := 42) G dX5_holds_1 (by omega) (by omega) (by omega) (by rw [s1_1]; rfl) (by decide) ?_
    refine aw_aload_n G dX5_holds_42 rfl ?_
    refine aw_iload_n G dX5_holds_43 rfl ?_
    refine cs_X5_15 G dX5_holds_44 (c_X5_allUnlike hk hE hN hn hR) (kk := fun r44 t44 h44 => ?_)
    obtain ⟨rfl, rfl⟩ := h44
    exact aw_zret G T dX5_holds_47 (bP_01 _) (⟨bP_c (by unfold ruleP; simp [s1_1]), rfl⟩)
  by_cases s1_2 : ru = 2
  · refine aw_tswIn (off := 47) (tgt := 48) G dX5_holds_1 (by omega) (by omega) (by omega) (by rw [s1_2]; rfl) (by decide) ?_
    refine aw_aload_n G dX5_holds_48 rfl ?_
    refine aw_iload_n G dX5_holds_49 rfl ?_
    refine cs_X5_18 G dX5_holds_50 (c_X5_allRising hk hE hN hn hR) (kk := fun r50 t50 h50 => ?_)
    obtain ⟨rfl, rfl⟩ := h50
    exact aw_zret G T dX5_holds_53 (bP_01 _) (⟨bP_c (by unfold ruleP; simp [s1_2]), rfl⟩)
  by_cases s1_3 : ru = 3
  · refine aw_tswIn (off := 53) (tgt := 54) G dX5_holds_1 (by omega) (by omega) (by omega) (by rw [s1_3]; rfl) (by decide) ?_
    refine aw_aload_n G dX5_holds_54 rfl ?_
    refine aw_iload_n G dX5_holds_55 rfl ?_
    refine cs_X5_21 G dX5_holds_56 (c_X5_allEven hk hE hN hn hR) (kk := fun r56 t56 h56 => ?_)
    obtain ⟨rfl, rfl⟩ := h56
    exact aw_zret G T dX5_holds_59 (bP_01 _) (⟨bP_c (by unfold ruleP; simp [s1_3]), rfl⟩)
  by_cases s1_4 : ru = 4
  · refine aw_tswIn (off := 59) (tgt := 60) G dX5_holds_1 (by omega) (by omega) (by omega) (by rw [s1_4]; rfl) (by decide) ?_
    refine aw_iconst G dX5_holds_60 ?_
    refine aw_iload_n G dX5_holds_61 rfl ?_
    refine aw_imul G dX5_holds_62 ?_
    refine aw_aload_n G dX5_holds_63 rfl ?_
    refine aw_iload_n G dX5_holds_64 rfl ?_
    refine cs_X5_24 G dX5_holds_65 (c_X5_noneAbove hk hE hN hn hR (by omega)) (kk := fun r65 t65 h65 => ?_)
    obtain ⟨rfl, rfl⟩ := h65
    exact aw_zret G T dX5_holds_68 (bP_01 _) (⟨bP_c (by unfold ruleP; simp [s1_4]), rfl⟩)
  refine aw_tswOut (tgt := 69) G dX5_holds_1 (by omega) (by omega) (by decide) ?_
  refine aw_aload_n G dX5_holds_69 rfl ?_
  refine aw_iload_n G dX5_holds_70 rfl ?_
  refine cs_X5_9 G dX5_holds_71 (c_X5_allLike hk hE hN hn hR) (kk := fun r71 t71 h71 => ?_)
  obtain ⟨rfl, rfl⟩ := h71
  refine aw_if_ne (tgt := 89) G dX5_holds_74 (by decide) (bP_R _) (fun c74 => ?_) (fun c74 => ?_)
  · refine aw_iconst G dX5_holds_89 ?_
    exact aw_zret G T dX5_holds_90 (by first | exact Or.inl rfl | exact Or.inr rfl | assumption) (⟨by first | (rw [bP_0] at c74 c82; exact (bP_t (by unfold ruleP; rw [if_neg (by omega), if_neg (by omega), if_neg (by omega), if_neg (by omega), if_neg (by omega)]; exact ⟨c74, c82⟩)).symm) | (rw [bP_0] at c82; exact (bP_f (by unfold ruleP; rw [if_neg (by omega), if_neg (by omega), if_neg (by omega), if_neg (by omega), if_neg (by omega)]; exact fun q => c82 q.2)).symm) | (rw [bP_0] at c74; exact (bP_f (by unfold ruleP; rw [if_neg (by omega), if_neg (by omega), if_neg (by omega), if_neg (by omega), if_neg (by omega)]; exact fun q => c74 q.1)).symm), rfl⟩)
  · refine aw_aload_n G dX5_holds_77 rfl ?_
    refine aw_iload_n G dX5_holds_78 rfl ?_
    refine cs_X5_15 G dX5_holds_79 (c_X5_allUnlike hk hE hN hn hR) (kk := fun r79 t79 h79 => ?_)
    obtain ⟨rfl, rfl⟩ := h79
    refine aw_if_ne (tgt := 89) G dX5_holds_82 (by decide) (bP_R _) (fun c82 => ?_) (fun c82 => ?_)
    · refine aw_iconst G dX5_holds_89 ?_
      exact aw_zret G T dX5_holds_90 (by first | exact Or.inl rfl | exact Or.inr rfl | assumption) (⟨by first | (rw [bP_0] at c74 c82; exact (bP_t (by unfold ruleP; rw [if_neg (by omega), if_neg (by omega), if_neg (by omega), if_neg (by omega), if_neg (by omega)]; exact ⟨c74, c82⟩)).symm) | (rw [bP_0] at c82; exact (bP_f (by unfold ruleP; rw [if_neg (by omega), if_neg (by omega), if_neg (by omega), if_neg (by omega), if_neg (by omega)]; exact fun q => c82 q.2)).symm) | (rw [bP_0] at c74; exact (bP_f (by unfold ruleP; rw [if_neg (by omega), if_neg (by omega), if_neg (by omega), if_neg (by omega), if_neg (by omega)]; exact fun q => c74 q.1)).symm), rfl⟩)
    · refine aw_iconst G dX5_holds_85 ?_
      refine aw_goto (tgt := 90) G dX5_holds_86 (by decide) ?_
      exact aw_zret G T dX5_holds_90 (by first | exact Or.inl rfl | exact Or.inr rfl | assumption) (⟨by first | (rw [bP_0] at c74 c82; exact (bP_t (by unfold ruleP; rw [if_neg (by omega), if_neg (by omega), if_neg (by omega), if_neg (by omega), if_neg (by omega)]; exact ⟨c74, c82⟩)).symm) | (rw [bP_0] at c82; exact (bP_f (by unfold ruleP; rw [if_neg (by omega), if_neg (by omega), if_neg (by omega), if_neg (by omega), if_neg (by omega)]; exact fun q => c82 q.2)).symm) | (rw [bP_0] at c74; exact (bP_f (by unfold ruleP; rw [if_neg (by omega), if_neg (by omega), if_neg (by omega), if_neg (by omega), if_neg (by omega)]; exact fun q => c74 q.1)).symm), rfl⟩)
set_option maxHeartbeats 4000000 in
theorem c_X5_together {V : Wd} {σ : St} {k N : Nat} {n : Int} (hk : k < NC) (hE : lay k = iE N) (hN : N < 2147483648) (hn : 0 ≤ n ∧ n ≤ N) : Ct V yX5_together cX5_together 4 (some .int) 0 0 [rv V k, iv n] σ (PI (fun r τ => r = sumTo (σ k) n.toNat ∧ τ = σ)) := by
  refine ct_of (by decide) (Nat.le_of_ble_eq_true rfl) (fun X G T => ?_)
  have G : Gd X V cX5_together RX5 4 0 0 := G
  show AW X V σ 0 [] [some (rv V k), some (iv n), none, none]
  have loop : ∀ (n0 : Nat) (i : Int), (0 ≤ i ∧ i ≤ n) → (n < i + (n0 : Int)) → AW X V (σ) 4 [] [some (rv V k), some (iv n), some (iv (sumTo (σ k) i.toNat)), some (iv i)] := by
    intro n0
    induction n0 with
    | zero =>
      intro i h0 h1
      exfalso
      omega
    | succ n0 ih =>
      intro i h0 h1
      refine aw_iload_n G dX5_together_4 rfl ?_
      refine aw_iload_n G dX5_together_5 rfl ?_
      refine aw_icmp_ge (tgt := 21) G dX5_together_6 (by decide) (by omega) (by omega) (fun c6 => ?_) (fun c6 => ?_)
      · refine aw_iload_n G dX5_together_21 rfl ?_
        exact aw_iret G T dX5_together_22 (⟨by rw [show i = n by omega], rfl⟩)
      · refine aw_iload_n G dX5_together_9 rfl ?_
        refine aw_aload_n G dX5_together_10 rfl ?_
        refine aw_iload_n G dX5_together_11 rfl ?_
        refine aw_iaload G dX5_together_12 (by first | decide | assumption | omega) (by first | rfl | assumption) (by first | decide | assumption) (by omega) ?_
        refine aw_iadd G dX5_together_13 ?_
        refine aw_istore_2 G dX5_together_14 (k := ?_)
        refine aw_iinc_3 G dX5_together_15 rfl (k := ?_)
        refine aw_goto (tgt := 4) G dX5_together_18 (by decide) ?_
        have e1 : (i + 1).toNat = i.toNat + 1 := by omega
        have e2 : ((i.toNat : Nat) : Int) = i := by omega
        have := ih (i + 1) (by omega) (by omega)
        rw [e1] at this
        unfold sumTo at this
        rw [e2] at this
        exact this
  refine aw_iconst G dX5_together_0 ?_
  refine aw_istore_2 G dX5_together_1 (k := ?_)
  refine aw_iconst G dX5_together_2 ?_
  refine aw_istore_3 G dX5_together_3 (k := ?_)
  exact loop (n.toNat + 1) 0 (by omega) (by omega)
noncomputable def ahd (f : Int → Int) (p : Int) : Int → Int := fun i => bP (f p < f i ∨ f i = f p ∧ i < p)
set_option maxHeartbeats 4000000 in
theorem c_X5_aheadOf {V : Wd} {σ : St} {k N : Nat} {p n : Int} (hk : k < NC) (hE : lay k = iE N) (hN : N < 2147483648) (hn : 1 ≤ n ∧ n ≤ N) (hR : ∀ i, 0 ≤ i → i < n → inR (σ k i)) (hp : 0 ≤ p ∧ p < n) : Ct V yX5_aheadOf cX5_aheadOf 5 (some .int) 0 0 [iv p, rv V k, iv n] σ (PI (fun r τ => r = sumTo (ahd (σ k) p) n.toNat ∧ τ = σ)) := by
  refine ct_of (by decide) (Nat.le_of_ble_eq_true rfl) (fun X G T => ?_)
  have G : Gd X V cX5_aheadOf RX5 5 0 0 := G
  show AW X V σ 0 [] [some (iv p), some (rv V k), some (iv n), none, none]
  have loop : ∀ (n0 : Nat) (i : Int), (0 ≤ i ∧ i ≤ n) → (n < i + (n0 : Int)) → AW X V (σ) 5 [] [some (iv p), some (rv V k), some (iv n), some (iv (sumTo (ahd (σ k) p) i.toNat)), some (iv i)] := by
    intro n0
    induction n0 with
    | zero =>
      intro i h0 h1
      exfalso
      omega
    | succ n0 ih =>
      intro i h0 h1
      refine aw_iload G dX5_aheadOf_5 rfl ?_
      refine aw_iload_n G dX5_aheadOf_7 rfl ?_
      refine aw_icmp_ge (tgt := 46) G dX5_aheadOf_8 (by decide) (by omega) (by omega) (fun c8 => ?_) (fun c8 => ?_)
      · refine aw_iload_n G dX5_aheadOf_46 rfl ?_
        exact aw_iret G T dX5_aheadOf_47 (⟨by rw [show i = n by omega], rfl⟩)
      · refine aw_aload_n G dX5_aheadOf_11 rfl ?_
        refine aw_iload G dX5_aheadOf_12 rfl ?_
        refine aw_iaload G dX5_aheadOf_14 (by first | decide | assumption | omega) (by first | rfl | assumption) (by first | decide | assumption) (by omega) ?_
        refine aw_aload_n G dX5_aheadOf_15 rfl ?_
        refine aw_iload_n G dX5_aheadOf_16 rfl ?_
        refine aw_iaload G dX5_aheadOf_17 (by first | decide | assumption | omega) (by first | rfl | assumption) (by first | decide | assumption) (by omega) ?_
        refine aw_icmp_gt (tgt := 37) G dX5_aheadOf_18 (by decide) (by exact hR _ (by omega) (by omega)) (by exact hR _ (by omega) (by omega)) (fun c18 => ?_) (fun c18 => ?_)
        · refine aw_iinc_3 G dX5_aheadOf_37 rfl (k := ?_)
          refine aw_iinc_4 G dX5_aheadOf_40 rfl (k := ?_)
          refine aw_goto (tgt := 5) G dX5_aheadOf_43 (by decide) ?_
          have e1 : (i + 1).toNat = i.toNat + 1 := by omega
          have e2 : ((i.toNat : Nat) : Int) = i := by omega
          have hz := ih (i + 1) (by omega) (by omega)
          rw [e1] at hz
          unfold sumTo at hz
          rw [e2] at hz
          first | (rw [show ahd (σ k) p i = 1 from bP_t (by first | exact Or.inl c18 | exact Or.inr ⟨c28, by omega⟩)] at hz; exact hz) | (rw [show ahd (σ k) p i = 0 from bP_f (by rintro (q | ⟨q1, q2⟩) <;> omega), Int.add_zero] at hz; exact hz)
        · refine aw_aload_n G dX5_aheadOf_21 rfl ?_
          refine aw_iload G dX5_aheadOf_22 rfl ?_
          refine aw_iaload G dX5_aheadOf_24 (by first | decide | assumption | omega) (by first | rfl | assumption) (by first | decide | assumption) (by omega) ?_
          refine aw_aload_n G dX5_aheadOf_25 rfl ?_
          refine aw_iload_n G dX5_aheadOf_26 rfl ?_
          refine aw_iaload G dX5_aheadOf_27 (by first | decide | assumption | omega) (by first | rfl | assumption) (by first | decide | assumption) (by omega) ?_
          refine aw_icmp_ne (tgt := 40) G dX5_aheadOf_28 (by decide) (by exact hR _ (by omega) (by omega)) (by exact hR _ (by omega) (by omega)) (fun c28 => ?_) (fun c28 => ?_)
          · refine aw_iinc_4 G dX5_aheadOf_40 rfl (k := ?_)
            refine aw_goto (tgt := 5) G dX5_aheadOf_43 (by decide) ?_
            have e1 : (i + 1).toNat = i.toNat + 1 := by omega
            have e2 : ((i.toNat : Nat) : Int) = i := by omega
            have hz := ih (i + 1) (by omega) (by omega)
            rw [e1] at hz
            unfold sumTo at hz
            rw [e2] at hz
            first | (rw [show ahd (σ k) p i = 1 from bP_t (by first | exact Or.inl c18 | exact Or.inr ⟨c28, by omega⟩)] at hz; exact hz) | (rw [show ahd (σ k) p i = 0 from bP_f (by rintro (q | ⟨q1, q2⟩) <;> omega), Int.add_zero] at hz; exact hz)
          · refine aw_iload G dX5_aheadOf_31 rfl ?_
            refine aw_iload_n G dX5_aheadOf_33 rfl ?_
            refine aw_icmp_ge (tgt := 40) G dX5_aheadOf_34 (by decide) (by omega) (by omega) (fun c34 => ?_) (fun c34 => ?_)
            · refine aw_iinc_4 G dX5_aheadOf_40 rfl (k := ?_)
              refine aw_goto (tgt := 5) G dX5_aheadOf_43 (by decide) ?_
              have e1 : (i + 1).toNat = i.toNat + 1 := by omega
              have e2 : ((i.toNat : Nat) : Int) = i := by omega
              have hz := ih (i + 1) (by omega) (by omega)
              rw [e1] at hz
              unfold sumTo at hz
              rw [e2] at hz
              first | (rw [show ahd (σ k) p i = 1 from bP_t (by first | exact Or.inl c18 | exact Or.inr ⟨c28, by omega⟩)] at hz; exact hz) | (rw [show ahd (σ k) p i = 0 from bP_f (by rintro (q | ⟨q1, q2⟩) <;> omega), Int.add_zero] at hz; exact hz)
            · refine aw_iinc_3 G dX5_aheadOf_37 rfl (k := ?_)
              refine aw_iinc_4 G dX5_aheadOf_40 rfl (k := ?_)
              refine aw_goto (tgt := 5) G dX5_aheadOf_43 (by decide) ?_
              have e1 : (i + 1).toNat = i.toNat + 1 := by omega
              have e2 : ((i.toNat : Nat) : Int) = i := by omega
              have hz := ih (i + 1) (by omega) (by omega)
              rw [e1] at hz
              unfold sumTo at hz
              rw [e2] at hz
              first | (rw [show ahd (σ k) p i = 1 from bP_t (by first | exact Or.inl c18 | exact Or.inr ⟨c28, by omega⟩)] at hz; exact hz) | (rw [show ahd (σ k) p i = 0 from bP_f (by rintro (q | ⟨q1, q2⟩) <;> omega), Int.add_zero] at hz; exact hz)
  refine aw_iconst G dX5_aheadOf_0 ?_
  refine aw_istore_3 G dX5_aheadOf_1 (k := ?_)
  refine aw_iconst G dX5_aheadOf_2 ?_
  refine aw_istore_4 G dX5_aheadOf_3 (k := ?_)
  exact loop (n.toNat + 1) 0 (by omega) (by omega)
theorem mn_R {f : Int → Int} {n : Nat} (h : ∀ i : Int, 0 ≤ i → i ≤ n → inR (f i)) : inR (mnTo f n) := by
  induction n with
  | zero => exact h 0 (by omega) (by omega)
  | succ n ih =>
    have a := ih (fun i p q => h i p (by omega))
    have b := h (n + 1) (by omega) (by omega)
    unfold mnTo
    omega
theorem mx_R {f : Int → Int} {n : Nat} (h : ∀ i : Int, 0 ≤ i → i ≤ n → inR (f i)) : inR (mxTo f n) := by
  induction n with
  | zero => exact h 0 (by omega) (by omega)
  | succ n ih =>
    have a := ih (fun i p q => h i p (by omega))
    have b := h (n + 1) (by omega) (by omega)
    unfold mxTo
    omega
set_option maxHeartbeats 4000000 in
theorem c_X5_spreadOf {V : Wd} {σ : St} {k N : Nat} {n : Int} (hk : k < NC) (hE : lay k = iE N) (hN : N < 2147483648) (hn : 1 ≤ n ∧ n ≤ N) (hR : ∀ i, 0 ≤ i → i < n → inR (σ k i)) : Ct V yX5_spreadOf cX5_spreadOf 5 (some .int) 1 40 [rv V k, iv n] σ (PI (fun r τ => r = mxTo (σ k) (n - 1).toNat - mnTo (σ k) (n - 1).toNat ∧ τ = σ)) := by
  refine ct_of (by decide) (Nat.le_of_ble_eq_true rfl) (fun X G T => ?_)
  have G : Gd X V cX5_spreadOf RX5 5 1 40 := G
  show AW X V σ 0 [] [some (rv V k), some (iv n), none, none, none]
  have loop : ∀ (n0 : Nat) (i : Int), (1 ≤ i ∧ i ≤ n) → (n < i + (n0 : Int)) → AW X V (σ) 11 [] [some (rv V k), some (iv n), some (iv (mnTo (σ k) (i - 1).toNat)), some (iv (mxTo (σ k) (i - 1).toNat)), some (iv i)] := by
    intro n0
    induction n0 with
    | zero =>
      intro i h0 h1
      exfalso
      omega
    | succ n0 ih =>
      intro i h0 h1
      refine aw_iload G dX5_spreadOf_11 rfl ?_
      refine aw_iload_n G dX5_spreadOf_13 rfl ?_
      refine aw_icmp_ge (tgt := 41) G dX5_spreadOf_14 (by decide) (by omega) (by omega) (fun c14 => ?_) (fun c14 => ?_)
      · refine aw_iload_n G dX5_spreadOf_41 rfl ?_
        refine aw_iload_n G dX5_spreadOf_42 rfl ?_
        refine aw_isub G dX5_spreadOf_43 ?_
        exact aw_iret G T dX5_spreadOf_44 (⟨by rw [show i = n by omega], rfl⟩)
      · refine aw_iload_n G dX5_spreadOf_17 rfl ?_
        refine aw_aload_n G dX5_spreadOf_18 rfl ?_
        refine aw_iload G dX5_spreadOf_19 rfl ?_
        refine aw_iaload G dX5_spreadOf_21 (by first | decide | assumption | omega) (by first | rfl | assumption) (by first | decide | assumption) (by omega) ?_
        refine cm_X5_28 G dX5_spreadOf_22 (mn_R (fun i p q => hR _ p (by omega))) (by exact hR _ (by omega) (by omega)) (k := ?_)
        refine aw_istore_2 G dX5_spreadOf_25 (k := ?_)
        refine aw_iload_n G dX5_spreadOf_26 rfl ?_
        refine aw_aload_n G dX5_spreadOf_27 rfl ?_
        refine aw_iload G dX5_spreadOf_28 rfl ?_
        refine aw_iaload G dX5_spreadOf_30 (by first | decide | assumption | omega) (by first | rfl | assumption) (by first | decide | assumption) (by omega) ?_
        refine cm_X5_34 G dX5_spreadOf_31 (mx_R (fun i p q => hR _ p (by omega))) (by exact hR _ (by omega) (by omega)) (k := ?_)
        refine aw_istore_3 G dX5_spreadOf_34 (k := ?_)
        refine aw_iinc_4 G dX5_spreadOf_35 rfl (k := ?_)
        refine aw_goto (tgt := 11) G dX5_spreadOf_38 (by decide) ?_
        have e1 : (i + 1 - 1).toNat = (i - 1).toNat + 1 := by omega
        have e2 : (((i - 1).toNat : Nat) : Int) + 1 = i := by omega
        have hz := ih (i + 1) (by omega) (by omega)
        rw [e1] at hz
        unfold mnTo mxTo at hz
        rw [e2] at hz
        exact hz
  refine aw_aload_n G dX5_spreadOf_0 rfl ?_
  refine aw_iconst G dX5_spreadOf_1 ?_
  refine aw_iaload G dX5_spreadOf_2 (by first | decide | assumption | omega) (by first | rfl | assumption) (by first | decide | assumption) (by omega) ?_
  refine aw_istore_2 G dX5_spreadOf_3 (k := ?_)
  refine aw_aload_n G dX5_spreadOf_4 rfl ?_
  refine aw_iconst G dX5_spreadOf_5 ?_
  refine aw_iaload G dX5_spreadOf_6 (by first | decide | assumption | omega) (by first | rfl | assumption) (by first | decide | assumption) (by omega) ?_
  refine aw_istore_3 G dX5_spreadOf_7 (k := ?_)
  refine aw_iconst G dX5_spreadOf_8 ?_
  refine aw_istore_4 G dX5_spreadOf_9 (k := ?_)
  exact loop (n.toNat + 1) 1 (by omega) (by omega)
