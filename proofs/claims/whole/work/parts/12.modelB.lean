noncomputable def oft (f : Int → Int) (v : Int) (n : Nat) : Int := sumTo (fun i => bP (f i = v)) n
theorem oft_R (f : Int → Int) (v : Int) : ∀ n : Nat, 0 ≤ oft f v n ∧ oft f v n ≤ n
  | 0 => by unfold oft sumTo; omega
  | n + 1 => by
    have h := oft_R f v n
    have h2 := bP_01 (f n = v)
    unfold oft sumTo
    unfold oft at h
    omega
theorem oft_s (f : Int → Int) (v : Int) (n : Nat) : oft f v (n + 1) = oft f v n + bP (f n = v) := rfl
theorem oft_all (f : Int → Int) (v : Int) : ∀ n : Nat, oft f v n = n ↔ ∀ i : Int, 0 ≤ i → i < n → f i = v
  | 0 => by
    constructor
    · intro _ i h0 h1
      omega
    · intro _
      rfl
  | n + 1 => by
    have ih := oft_all f v n
    have hR := oft_R f v n
    rw [oft_s]
    constructor
    · intro h i h0 h1
      have h2 := bP_01 (f n = v)
      by_cases e : i = n
      · subst e
        exact bP_1.mp (by omega)
      · exact ih.mp (by omega) i h0 (by omega)
    · intro h
      rw [bP_t (h n (by omega) (by omega)), ih.mpr (fun i h0 h1 => h i h0 (by omega))]
      omega
theorem oft_mono (f : Int → Int) (v : Int) (n : Nat) : ∀ m : Nat, oft f v n ≤ oft f v (n + m)
  | 0 => Int.le_refl _
  | m + 1 => by
    have := oft_mono f v n m
    have h2 := bP_01 (f (n + m : Nat) = v)
    rw [← Nat.add_assoc, oft_s]
    omega
theorem oft_1 (f : Int → Int) (v : Int) : ∀ n : Nat, (∀ i j : Int, 0 ≤ i → i < j → j < n → f i ≠ f j) → oft f v n ≤ 1 ∧ (oft f v n = 1 → ∃ i : Int, 0 ≤ i ∧ i < n ∧ f i = v)
  | 0, _ => ⟨by unfold oft sumTo; decide, fun h => by unfold oft sumTo at h; omega⟩
  | n + 1, h => by
    obtain ⟨h1, h2⟩ := oft_1 f v n (fun i j a b c => h i j a b (by omega))
    have hR := oft_R f v n
    rw [oft_s]
    by_cases q : f n = v
    · rw [bP_t q]
      refine ⟨?_, fun _ => ⟨n, by omega, by omega, q⟩⟩
      by_cases e : oft f v n = 1
      · obtain ⟨i, a, b, c⟩ := h2 e
        exact absurd (c.trans q.symm) (h i n a b (by omega))
      · omega
    · rw [bP_f q]
      refine ⟨by omega, fun e => ?_⟩
      obtain ⟨i, a, b, c⟩ := h2 (by omega)
      exact ⟨i, a, by omega, c⟩
theorem oft_un {f : Int → Int} {n : Int} (hn : 0 ≤ n) : unlikeP f n ↔ ∀ k : Int, 0 ≤ k → k < n → oft f (f k) n.toNat ≤ 1 := by
  constructor
  · intro h k _ _
    exact (oft_1 f (f k) n.toNat (fun i j a b c => h i j a b (by omega))).1
  · intro h i j a b c e
    have h1 := h j (by omega) c
    have h2 := oft_mono f (f j) (j.toNat + 1) (n.toNat - (j.toNat + 1))
    rw [show j.toNat + 1 + (n.toNat - (j.toNat + 1)) = n.toNat by omega, oft_s, bP_t (by rw [show ((j.toNat : Nat) : Int) = j by omega])] at h2
    have h3 := oft_mono f (f j) (i.toNat + 1) (j.toNat - (i.toNat + 1))
    have h5 := oft_R f (f j) i.toNat
    rw [show i.toNat + 1 + (j.toNat - (i.toNat + 1)) = j.toNat by omega, oft_s, bP_t (by rw [show ((i.toNat : Nat) : Int) = i by omega]; exact e)] at h3
    omega
theorem oft_like {f : Int → Int} {n : Int} (hn : 0 ≤ n) : likeP f n ↔ oft f (f 0) n.toNat = n := by
  have h := oft_all f (f 0) n.toNat
  rw [show ((n.toNat : Nat) : Int) = n by omega] at h
  exact h.symm
theorem ahd_c {f g : Int → Int} {p : Int} {n : Int} (hp : 0 ≤ p ∧ p < n) (h : ∀ i, 0 ≤ i → i < n → f i = g i) : sumTo (ahd f p) n.toNat = sumTo (ahd g p) n.toNat := by
  refine sumTo_c fun i h0 h1 => ?_
  unfold ahd
  rw [h i h0 (by omega), h p hp.1 hp.2]
set_option maxHeartbeats 4000000 in
theorem c_X10_often {V : Wd} {σ : St} {k N : Nat} {n v : Int} (hk : k < NC) (hE : lay k = iE N) (hN : N < 2147483648) (hn : 1 ≤ n ∧ n ≤ N) (hR : ∀ i, 0 ≤ i → i < n → inR (σ k i)) (hv : inR v) : Ct V yX10_often cX10_often 5 (some .int) 0 0 [rv V k, iv n, iv v] σ (PI (fun r τ => r = oft (σ k) v n.toNat ∧ τ = σ)) := by
  refine ct_of (by decide) (Nat.le_of_ble_eq_true rfl) (fun X G T => ?_)
  have G : Gd X V cX10_often RX10 5 0 0 := G
  show AW X V σ 0 [] [some (rv V k), some (iv n), some (iv v), none, none]
  have loop : ∀ (n0 : Nat) (i : Int), (0 ≤ i ∧ i ≤ n) → (n < i + (n0 : Int)) → AW X V (σ) 5 [] [some (rv V k), some (iv n), some (iv v), some (iv (oft (σ k) v i.toNat)), some (iv i)] := by
    intro n0
    induction n0 with
    | zero =>
      intro i h0 h1
      exfalso
      omega
    | succ n0 ih =>
      intro i h0 h1
      refine aw_iload G dX10_often_5 rfl ?_
      refine aw_iload_n G dX10_often_7 rfl ?_
      refine aw_icmp_ge (tgt := 33) G dX10_often_8 (by decide) (by first | omega | exact b01_R _ | exact bP_R _) (by first | omega | exact b01_R _ | exact bP_R _) (fun c8 => ?_) (fun c8 => ?_)
      · refine aw_iload_n G dX10_often_33 rfl ?_
        exact aw_iret G T dX10_often_34 (⟨by rw [show i = n by omega], rfl⟩)
      · refine aw_iload_n G dX10_often_11 rfl ?_
        refine aw_aload_n G dX10_often_12 rfl ?_
        refine aw_iload G dX10_often_13 rfl ?_
        refine aw_iaload G dX10_often_15 (by first | decide | assumption | omega) (by first | rfl | assumption) (by first | decide | assumption) (by omega) ?_
        refine aw_iload_n G dX10_often_16 rfl ?_
        refine aw_icmp_ne (tgt := 24) G dX10_often_17 (by decide) (by exact hR _ (by omega) (by omega)) (hv) (fun c17 => ?_) (fun c17 => ?_)
        · refine aw_iconst G dX10_often_24 ?_
          refine aw_iadd G dX10_often_25 ?_
          refine aw_istore_3 G dX10_often_26 (k := ?_)
          refine aw_iinc_4 G dX10_often_27 rfl (k := ?_)
          refine aw_goto (tgt := 5) G dX10_often_30 (by decide) ?_
          have e1 : (i + 1).toNat = i.toNat + 1 := by omega
          have hz := ih (i + 1) (by omega) (by omega)
          rw [e1, oft_s, show ((i.toNat : Nat) : Int) = i by omega] at hz
          first | (rw [bP_t c17] at hz; exact hz) | (rw [bP_f c17] at hz; exact hz)
        · refine aw_iconst G dX10_often_20 ?_
          refine aw_goto (tgt := 25) G dX10_often_21 (by decide) ?_
          refine aw_iadd G dX10_often_25 ?_
          refine aw_istore_3 G dX10_often_26 (k := ?_)
          refine aw_iinc_4 G dX10_often_27 rfl (k := ?_)
          refine aw_goto (tgt := 5) G dX10_often_30 (by decide) ?_
          have e1 : (i + 1).toNat = i.toNat + 1 := by omega
          have hz := ih (i + 1) (by omega) (by omega)
          rw [e1, oft_s, show ((i.toNat : Nat) : Int) = i by omega] at hz
          first | (rw [bP_t c17] at hz; exact hz) | (rw [bP_f c17] at hz; exact hz)
  refine aw_iconst G dX10_often_0 ?_
  refine aw_istore_3 G dX10_often_1 (k := ?_)
  refine aw_iconst G dX10_often_2 ?_
  refine aw_istore_4 G dX10_often_3 (k := ?_)
  exact loop (n.toNat + 1) 0 (by omega) (by omega)
set_option maxHeartbeats 4000000 in
theorem c_X10_isLike {V : Wd} {σ : St} {k N : Nat} {n : Int} (hk : k < NC) (hE : lay k = iE N) (hN : N < 2147483648) (hn : 1 ≤ n ∧ n ≤ N) (hR : ∀ i, 0 ≤ i → i < n → inR (σ k i)) (hn2 : n ≤ 1000000) : Ct V yX10_isLike cX10_isLike 2 (some .boolean) 1 24 [rv V k, iv n] σ (PI (fun r τ => r = bP (likeP (σ k) n) ∧ τ = σ)) := by
  refine ct_of (by decide) (Nat.le_of_ble_eq_true rfl) (fun X G T => ?_)
  have G : Gd X V cX10_isLike RX10 2 1 24 := G
  show AW X V σ 0 [] [some (rv V k), some (iv n)]
  refine aw_aload_n G dX10_isLike_0 rfl ?_
  refine aw_iload_n G dX10_isLike_1 rfl ?_
  refine aw_aload_n G dX10_isLike_2 rfl ?_
  refine aw_iconst G dX10_isLike_3 ?_
  refine aw_iaload G dX10_isLike_4 (by first | decide | assumption | omega) (by first | rfl | assumption) (by first | decide | assumption) (by omega) ?_
  refine cs_X10_147 G dX10_isLike_5 (c_X10_often hk hE hN hn hR (hR _ (by omega) (by omega))) (kk := fun r5 t5 h5 => ?_)
  obtain ⟨rfl, rfl⟩ := h5
  refine aw_iload_n G dX10_isLike_8 rfl ?_
  refine aw_icmp_ne (tgt := 16) G dX10_isLike_9 (by decide) (by have := oft_R (‹St› k) (‹St› k 0) n.toNat; omega) (by first | omega | exact b01_R _ | exact bP_R _) (fun c9 => ?_) (fun c9 => ?_)
  · refine aw_iconst G dX10_isLike_16 ?_
    exact aw_zret G T dX10_isLike_17 (by first | exact Or.inl rfl | exact Or.inr rfl | assumption) (⟨by first | exact (bP_t ((oft_like (by omega)).mpr c9)).symm | exact (bP_f (fun q => c9 ((oft_like (by omega)).mp q))).symm, rfl⟩)
  · refine aw_iconst G dX10_isLike_12 ?_
    refine aw_goto (tgt := 17) G dX10_isLike_13 (by decide) ?_
    exact aw_zret G T dX10_isLike_17 (by first | exact Or.inl rfl | exact Or.inr rfl | assumption) (⟨by first | exact (bP_t ((oft_like (by omega)).mpr c9)).symm | exact (bP_f (fun q => c9 ((oft_like (by omega)).mp q))).symm, rfl⟩)

set_option maxHeartbeats 4000000 in
theorem c_X10_isUnlike {V : Wd} {σ : St} {k N : Nat} {n : Int} (hk : k < NC) (hE : lay k = iE N) (hN : N < 2147483648) (hn : 1 ≤ n ∧ n ≤ N) (hR : ∀ i, 0 ≤ i → i < n → inR (σ k i)) (hn2 : n ≤ 1000000) : Ct V yX10_isUnlike cX10_isUnlike 3 (some .boolean) 1 24 [rv V k, iv n] σ (PI (fun r τ => r = bP (unlikeP (σ k) n) ∧ τ = σ)) := by
  refine ct_of (by decide) (Nat.le_of_ble_eq_true rfl) (fun X G T => ?_)
  have G : Gd X V cX10_isUnlike RX10 3 1 24 := G
  show AW X V σ 0 [] [some (rv V k), some (iv n), none]
  have loop : ∀ (n0 : Nat) (i : Int), (0 ≤ i ∧ i ≤ n) → (n < i + (n0 : Int)) → (∀ j, 0 ≤ j → j < i → oft (σ k) (σ k j) n.toNat ≤ 1) → AW X V (σ) 2 [] [some (rv V k), some (iv n), some (iv i)] := by
    intro n0
    induction n0 with
    | zero =>
      intro i h0 h1 hq
      exfalso
      omega
    | succ n0 ih =>
      intro i h0 h1 hq
      refine aw_iload_n G dX10_isUnlike_2 rfl ?_
      refine aw_iload_n G dX10_isUnlike_3 rfl ?_
      refine aw_icmp_ge (tgt := 27) G dX10_isUnlike_4 (by decide) (by first | omega | exact b01_R _ | exact bP_R _) (by first | omega | exact b01_R _ | exact bP_R _) (fun c4 => ?_) (fun c4 => ?_)
      · refine aw_iconst G dX10_isUnlike_27 ?_
        exact aw_zret G T dX10_isUnlike_28 (by first | exact Or.inl rfl | exact Or.inr rfl | assumption) (⟨(bP_t ((oft_un (by omega)).mpr fun j a b => hq j a (by omega))).symm, rfl⟩)
      · refine aw_aload_n G dX10_isUnlike_7 rfl ?_
        refine aw_iload_n G dX10_isUnlike_8 rfl ?_
        refine aw_aload_n G dX10_isUnlike_9 rfl ?_
        refine aw_iload_n G dX10_isUnlike_10 rfl ?_
        refine aw_iaload G dX10_isUnlike_11 (by first | decide | assumption | omega) (by first | rfl | assumption) (by first | decide | assumption) (by omega) ?_
        refine cs_X10_147 G dX10_isUnlike_12 (c_X10_often hk hE hN hn hR (hR _ (by omega) (by omega))) (kk := fun r12 t12 h12 => ?_)
        obtain ⟨rfl, rfl⟩ := h12
        refine aw_iconst G dX10_isUnlike_15 ?_
        refine aw_icmp_le (tgt := 21) G dX10_isUnlike_16 (by decide) (by have := oft_R (‹St› k) (‹St› k i) n.toNat; omega) (by first | omega | exact b01_R _ | exact bP_R _) (fun c16 => ?_) (fun c16 => ?_)
        · refine aw_iinc_2 G dX10_isUnlike_21 rfl (k := ?_)
          refine aw_goto (tgt := 2) G dX10_isUnlike_24 (by decide) ?_
          exact ih (i + 1) (by omega) (by omega) (fun j a b => if e : j = i then by rw [e]; exact c16 else hq j a (by omega))
        · refine aw_iconst G dX10_isUnlike_19 ?_
          exact aw_zret G T dX10_isUnlike_20 (by first | exact Or.inl rfl | exact Or.inr rfl | assumption) (⟨(bP_f fun q => c16 ((oft_un (by omega)).mp q i (by omega) (by omega))).symm, rfl⟩)
  refine aw_iconst G dX10_isUnlike_0 ?_
  refine aw_istore_2 G dX10_isUnlike_1 (k := ?_)
  exact loop (n.toNat + 1) 0 (by omega) (by omega) (fun j a b => by omega)
theorem tm2 (x : Int) : x.tmod 2 = 0 ↔ x % 2 = 0 := by
  constructor
  · intro h
    have := Int.mul_tdiv_add_tmod x 2
    omega
  · intro h
    have h1 := tm_bd x 2
    have h2 := Int.mul_tdiv_add_tmod x 2
    have h3 : -2 < x.tmod 2 ∧ x.tmod 2 < 2 := tmod_bounds (by decide)
    omega
theorem tm2_R (x : Int) : inR (x.tmod 2) := by
  have h3 : -2 < x.tmod 2 ∧ x.tmod 2 < 2 := tmod_bounds (by decide)
  omega
theorem isSo_f {ru : Int} {f : Int → Int} {n i : Int} (hr : 0 ≤ ru ∧ ru ≤ 5) (h0 : ¬ ru = 0) (h1 : ¬ ru = 1) (h5 : ¬ ru = 5) (hi : 0 ≤ i ∧ i < n) (h : ru = 2 ∧ 1 ≤ i ∧ f i ≤ f (i - 1) ∨ ru = 3 ∧ ¬ f i % 2 = 0 ∨ ru = 4 ∧ 2 * n < f i) : ¬ ruleP ru f n := by
  intro q
  unfold ruleP at q
  rw [if_neg h0, if_neg h1] at q
  rcases h with ⟨e, a, b⟩ | ⟨e, a⟩ | ⟨e, a⟩
  · rw [if_pos e] at q
    have := q i (by omega) (by omega)
    omega
  · rw [if_neg (by omega), if_pos e] at q
    exact a (q i (by omega) (by omega))
  · rw [if_neg (by omega), if_neg (by omega), if_pos e] at q
    have := q i (by omega) (by omega)
    omega
theorem isSo_t {ru : Int} {f : Int → Int} {n : Int} (hr : 0 ≤ ru ∧ ru ≤ 5) (h0 : ¬ ru = 0) (h1 : ¬ ru = 1) (h5 : ¬ ru = 5) (h : ∀ j, 0 ≤ j → j < n → (ru = 2 → 1 ≤ j → f (j - 1) < f j) ∧ (ru = 3 → f j % 2 = 0) ∧ (ru = 4 → f j ≤ 2 * n)) : ruleP ru f n := by
  unfold ruleP
  rw [if_neg h0, if_neg h1]
  by_cases e2 : ru = 2
  · rw [if_pos e2]
    exact fun i a b => (h i (by omega) b).1 e2 a
  by_cases e3 : ru = 3
  · rw [if_neg e2, if_pos e3]
    exact fun i a b => (h i a b).2.1 e3
  · rw [if_neg e2, if_neg e3, if_pos (by omega)]
    exact fun i a b => (h i a b).2.2 (by omega)
set_option maxHeartbeats 4000000 in
theorem c_X10_isSo {V : Wd} {σ : St} {k N : Nat} {ru n : Int} (hk : k < NC) (hE : lay k = iE N) (hN : N < 2147483648) (hn : 1 ≤ n ∧ n ≤ N) (hR : ∀ i, 0 ≤ i → i < n → inR (σ k i)) (hr : 0 ≤ ru ∧ ru ≤ 5) (hn2 : n ≤ 1000000) : Ct V yX10_isSo cX10_isSo 4 (some .boolean) 2 46 [iv ru, rv V k, iv n] σ (PI (fun r τ => r = bP (ruleP ru (σ k) n) ∧ τ = σ)) := by
  refine ct_of (by decide) (Nat.le_of_ble_eq_true rfl) (fun X G T => ?_)
  have G : Gd X V cX10_isSo RX10 4 2 46 := G
  show AW X V σ 0 [] [some (iv ru), some (rv V k), some (iv n), none]
  refine aw_iload_n G dX10_isSo_0 rfl ?_
  by_cases s1_0 : ru = 0
  · refine aw_lsw (off := 35) (tgt := 36) G dX10_isSo_1 (by first | omega | exact b01_R _ | exact bP_R _) (by decide) (by rw [s1_0]; rfl) (by decide) ?_
    refine aw_aload_n G dX10_isSo_36 rfl ?_
    refine aw_iload_n G dX10_isSo_37 rfl ?_
    refine cs_X10_151 G dX10_isSo_38 (c_X10_isLike hk hE hN hn hR hn2) (kk := fun r38 t38 h38 => ?_)
    obtain ⟨rfl, rfl⟩ := h38
    exact aw_zret G T dX10_isSo_41 (bP_01 _) (⟨bP_c (by unfold ruleP; simp [s1_0]), rfl⟩)
  by_cases s1_1 : ru = 1
  · refine aw_lsw (off := 41) (tgt := 42) G dX10_isSo_1 (by first | omega | exact b01_R _ | exact bP_R _) (by decide) (by rw [s1_1]; rfl) (by decide) ?_
    refine aw_aload_n G dX10_isSo_42 rfl ?_
    refine aw_iload_n G dX10_isSo_43 rfl ?_
    refine cs_X10_155 G dX10_isSo_44 (c_X10_isUnlike hk hE hN hn hR hn2) (kk := fun r44 t44 h44 => ?_)
    obtain ⟨rfl, rfl⟩ := h44
    exact aw_zret G T dX10_isSo_47 (bP_01 _) (⟨bP_c (by unfold ruleP; simp [s1_1]), rfl⟩)
  by_cases s1_2 : ru = 5
  · refine aw_lsw (off := 47) (tgt := 48) G dX10_isSo_1 (by first | omega | exact b01_R _ | exact bP_R _) (by decide) (by rw [s1_2]; rfl) (by decide) ?_
    refine aw_aload_n G dX10_isSo_48 rfl ?_
    refine aw_iload_n G dX10_isSo_49 rfl ?_
    refine cs_X10_151 G dX10_isSo_50 (c_X10_isLike hk hE hN hn hR hn2) (kk := fun r50 t50 h50 => ?_)
    obtain ⟨rfl, rfl⟩ := h50
    refine aw_if_ne (tgt := 68) G dX10_isSo_53 (by decide) (by first | omega | exact b01_R _ | exact bP_R _) (fun c53 => ?_) (fun c53 => ?_)
    · try simp only [b01_0, b01_n, bP_0, bP_n, Classical.not_not] at c53
      refine aw_iconst G dX10_isSo_68 ?_
      exact aw_zret G T dX10_isSo_69 (by first | exact Or.inl rfl | exact Or.inr rfl | assumption) (⟨by first | exact (bP_t (by unfold ruleP; rw [if_neg (by omega), if_neg (by omega), if_neg (by omega), if_neg (by omega), if_neg (by omega)]; exact ⟨c53, c61⟩)).symm | exact (bP_f (by unfold ruleP; rw [if_neg (by omega), if_neg (by omega), if_neg (by omega), if_neg (by omega), if_neg (by omega)]; exact fun q => q.2 c61)).symm | exact (bP_f (by unfold ruleP; rw [if_neg (by omega), if_neg (by omega), if_neg (by omega), if_neg (by omega), if_neg (by omega)]; exact fun q => q.1 c53)).symm, rfl⟩)
    · try simp only [b01_0, b01_n, bP_0, bP_n, Classical.not_not] at c53
      refine aw_aload_n G dX10_isSo_56 rfl ?_
      refine aw_iload_n G dX10_isSo_57 rfl ?_
      refine cs_X10_155 G dX10_isSo_58 (c_X10_isUnlike hk hE hN hn hR hn2) (kk := fun r58 t58 h58 => ?_)
      obtain ⟨rfl, rfl⟩ := h58
      refine aw_if_ne (tgt := 68) G dX10_isSo_61 (by decide) (by first | omega | exact b01_R _ | exact bP_R _) (fun c61 => ?_) (fun c61 => ?_)
      · try simp only [b01_0, b01_n, bP_0, bP_n, Classical.not_not] at c61
        refine aw_iconst G dX10_isSo_68 ?_
        exact aw_zret G T dX10_isSo_69 (by first | exact Or.inl rfl | exact Or.inr rfl | assumption) (⟨by first | exact (bP_t (by unfold ruleP; rw [if_neg (by omega), if_neg (by omega), if_neg (by omega), if_neg (by omega), if_neg (by omega)]; exact ⟨c53, c61⟩)).symm | exact (bP_f (by unfold ruleP; rw [if_neg (by omega), if_neg (by omega), if_neg (by omega), if_neg (by omega), if_neg (by omega)]; exact fun q => q.2 c61)).symm | exact (bP_f (by unfold ruleP; rw [if_neg (by omega), if_neg (by omega), if_neg (by omega), if_neg (by omega), if_neg (by omega)]; exact fun q => q.1 c53)).symm, rfl⟩)
      · try simp only [b01_0, b01_n, bP_0, bP_n, Classical.not_not] at c61
        refine aw_iconst G dX10_isSo_64 ?_
        refine aw_goto (tgt := 69) G dX10_isSo_65 (by decide) ?_
        exact aw_zret G T dX10_isSo_69 (by first | exact Or.inl rfl | exact Or.inr rfl | assumption) (⟨by first | exact (bP_t (by unfold ruleP; rw [if_neg (by omega), if_neg (by omega), if_neg (by omega), if_neg (by omega), if_neg (by omega)]; exact ⟨c53, c61⟩)).symm | exact (bP_f (by unfold ruleP; rw [if_neg (by omega), if_neg (by omega), if_neg (by omega), if_neg (by omega), if_neg (by omega)]; exact fun q => q.2 c61)).symm | exact (bP_f (by unfold ruleP; rw [if_neg (by omega), if_neg (by omega), if_neg (by omega), if_neg (by omega), if_neg (by omega)]; exact fun q => q.1 c53)).symm, rfl⟩)
  refine aw_lsw (off := 69) (tgt := 70) G dX10_isSo_1 (by first | omega | exact b01_R _ | exact bP_R _) (by decide) (by simp [Op.lookupswitch.offset, Ne.symm s1_0, s1_0, Ne.symm s1_1, s1_1, Ne.symm s1_2, s1_2]) (by decide) ?_
  refine aw_iconst G dX10_isSo_70 ?_
  refine aw_istore_3 G dX10_isSo_71 (k := ?_)
  have loop : ∀ (n0 : Nat) (i : Int), (0 ≤ i ∧ i ≤ n) → (n < i + (n0 : Int)) → (∀ j, 0 ≤ j → j < i → (ru = 2 → 1 ≤ j → σ k (j - 1) < σ k j) ∧ (ru = 3 → σ k j % 2 = 0) ∧ (ru = 4 → σ k j ≤ 2 * n)) → AW X V (σ) 72 [] [some (iv ru), some (rv V k), some (iv n), some (iv i)] := by
    intro n0
    induction n0 with
    | zero =>
      intro i h0 h1 hq
      exfalso
      omega
    | succ n0 ih =>
      intro i h0 h1 hq
      refine aw_iload_n G dX10_isSo_72 rfl ?_
      refine aw_iload_n G dX10_isSo_73 rfl ?_
      refine aw_icmp_ge (tgt := 132) G dX10_isSo_74 (by decide) (by first | omega | exact b01_R _ | exact bP_R _) (by first | omega | exact b01_R _ | exact bP_R _) (fun c74 => ?_) (fun c74 => ?_)
      · refine aw_iconst G dX10_isSo_132 ?_
        exact aw_zret G T dX10_isSo_133 (by first | exact Or.inl rfl | exact Or.inr rfl | assumption) (⟨(bP_t (isSo_t hr s1_0 s1_1 s1_2 fun j a b => hq j a (by omega))).symm, rfl⟩)
      · refine aw_iload_n G dX10_isSo_77 rfl ?_
        refine aw_iconst G dX10_isSo_78 ?_
        refine aw_icmp_ne (tgt := 97) G dX10_isSo_79 (by decide) (by first | omega | exact b01_R _ | exact bP_R _) (by first | omega | exact b01_R _ | exact bP_R _) (fun c79 => ?_) (fun c79 => ?_)
        · refine aw_iload_n G dX10_isSo_97 rfl ?_
          refine aw_iconst G dX10_isSo_98 ?_
          refine aw_icmp_ne (tgt := 110) G dX10_isSo_99 (by decide) (by first | omega | exact b01_R _ | exact bP_R _) (by first | omega | exact b01_R _ | exact bP_R _) (fun c99 => ?_) (fun c99 => ?_)
          · refine aw_iload_n G dX10_isSo_110 rfl ?_
            refine aw_iconst G dX10_isSo_111 ?_
            refine aw_icmp_ne (tgt := 126) G dX10_isSo_112 (by decide) (by first | omega | exact b01_R _ | exact bP_R _) (by first | omega | exact b01_R _ | exact bP_R _) (fun c112 => ?_) (fun c112 => ?_)
            · refine aw_iinc_3 G dX10_isSo_126 rfl (k := ?_)
              refine aw_goto (tgt := 72) G dX10_isSo_129 (by decide) ?_
              refine ih (i + 1) (by omega) (by omega) (fun j a b => ?_)
              by_cases e : j = i
              · subst e
                exact ⟨fun _ _ => by omega, fun z => by first | omega | exact (tm2 _).mp (by omega), fun _ => by omega⟩
              · exact hq j a (by omega)
            · refine aw_aload_n G dX10_isSo_115 rfl ?_
              refine aw_iload_n G dX10_isSo_116 rfl ?_
              refine aw_iaload G dX10_isSo_117 (by first | decide | assumption | omega) (by first | rfl | assumption) (by first | decide | assumption) (by omega) ?_
              refine aw_iconst G dX10_isSo_118 ?_
              refine aw_iload_n G dX10_isSo_119 rfl ?_
              refine aw_imul G dX10_isSo_120 ?_
              refine aw_icmp_le (tgt := 126) G dX10_isSo_121 (by decide) (by exact hR _ (by omega) (by omega)) (by omega) (fun c121 => ?_) (fun c121 => ?_)
              · refine aw_iinc_3 G dX10_isSo_126 rfl (k := ?_)
                refine aw_goto (tgt := 72) G dX10_isSo_129 (by decide) ?_
                refine ih (i + 1) (by omega) (by omega) (fun j a b => ?_)
                by_cases e : j = i
                · subst e
                  exact ⟨fun _ _ => by omega, fun z => by first | omega | exact (tm2 _).mp (by omega), fun _ => by omega⟩
                · exact hq j a (by omega)
              · refine aw_iconst G dX10_isSo_124 ?_
                exact aw_zret G T dX10_isSo_125 (by first | exact Or.inl rfl | exact Or.inr rfl | assumption) (⟨(bP_f (isSo_f hr s1_0 s1_1 s1_2 (i := i) (by omega) (by first | exact Or.inl ⟨by omega, by omega, by omega⟩ | exact Or.inr (Or.inl ⟨by omega, fun q => c107 ((tm2 _).mpr q)⟩) | exact Or.inr (Or.inr ⟨by omega, by omega⟩)))).symm, rfl⟩)
          · refine aw_aload_n G dX10_isSo_102 rfl ?_
            refine aw_iload_n G dX10_isSo_103 rfl ?_
            refine aw_iaload G dX10_isSo_104 (by first | decide | assumption | omega) (by first | rfl | assumption) (by first | decide | assumption) (by omega) ?_
            refine aw_iconst G dX10_isSo_105 ?_
            refine aw_irem G dX10_isSo_106 (by exact hR _ (by omega) (by omega)) (by first | omega | exact b01_R _ | exact bP_R _) ?_
            refine aw_if_ne (tgt := 124) G dX10_isSo_107 (by decide) (tm2_R _) (fun c107 => ?_) (fun c107 => ?_)
            · refine aw_iconst G dX10_isSo_124 ?_
              exact aw_zret G T dX10_isSo_125 (by first | exact Or.inl rfl | exact Or.inr rfl | assumption) (⟨(bP_f (isSo_f hr s1_0 s1_1 s1_2 (i := i) (by omega) (by first | exact Or.inl ⟨by omega, by omega, by omega⟩ | exact Or.inr (Or.inl ⟨by omega, fun q => c107 ((tm2 _).mpr q)⟩) | exact Or.inr (Or.inr ⟨by omega, by omega⟩)))).symm, rfl⟩)
            · refine aw_iload_n G dX10_isSo_110 rfl ?_
              refine aw_iconst G dX10_isSo_111 ?_
              refine aw_icmp_ne (tgt := 126) G dX10_isSo_112 (by decide) (by first | omega | exact b01_R _ | exact bP_R _) (by first | omega | exact b01_R _ | exact bP_R _) (fun c112 => ?_) (fun c112 => ?_)
              · refine aw_iinc_3 G dX10_isSo_126 rfl (k := ?_)
                refine aw_goto (tgt := 72) G dX10_isSo_129 (by decide) ?_
                refine ih (i + 1) (by omega) (by omega) (fun j a b => ?_)
                by_cases e : j = i
                · subst e
                  exact ⟨fun _ _ => by omega, fun z => by first | omega | exact (tm2 _).mp (by omega), fun _ => by omega⟩
                · exact hq j a (by omega)
              · refine aw_aload_n G dX10_isSo_115 rfl ?_
                refine aw_iload_n G dX10_isSo_116 rfl ?_
                refine aw_iaload G dX10_isSo_117 (by first | decide | assumption | omega) (by first | rfl | assumption) (by first | decide | assumption) (by omega) ?_
                refine aw_iconst G dX10_isSo_118 ?_
                refine aw_iload_n G dX10_isSo_119 rfl ?_
                refine aw_imul G dX10_isSo_120 ?_
                refine aw_icmp_le (tgt := 126) G dX10_isSo_121 (by decide) (by exact hR _ (by omega) (by omega)) (by omega) (fun c121 => ?_) (fun c121 => ?_)
                · refine aw_iinc_3 G dX10_isSo_126 rfl (k := ?_)
                  refine aw_goto (tgt := 72) G dX10_isSo_129 (by decide) ?_
                  refine ih (i + 1) (by omega) (by omega) (fun j a b => ?_)
                  by_cases e : j = i
                  · subst e
                    exact ⟨fun _ _ => by omega, fun z => by first | omega | exact (tm2 _).mp (by omega), fun _ => by omega⟩
                  · exact hq j a (by omega)
                · refine aw_iconst G dX10_isSo_124 ?_
                  exact aw_zret G T dX10_isSo_125 (by first | exact Or.inl rfl | exact Or.inr rfl | assumption) (⟨(bP_f (isSo_f hr s1_0 s1_1 s1_2 (i := i) (by omega) (by first | exact Or.inl ⟨by omega, by omega, by omega⟩ | exact Or.inr (Or.inl ⟨by omega, fun q => c107 ((tm2 _).mpr q)⟩) | exact Or.inr (Or.inr ⟨by omega, by omega⟩)))).symm, rfl⟩)
        · refine aw_iload_n G dX10_isSo_82 rfl ?_
          refine aw_if_le (tgt := 97) G dX10_isSo_83 (by decide) (by first | omega | exact b01_R _ | exact bP_R _) (fun c83 => ?_) (fun c83 => ?_)
          · refine aw_iload_n G dX10_isSo_97 rfl ?_
            refine aw_iconst G dX10_isSo_98 ?_
            refine aw_icmp_ne (tgt := 110) G dX10_isSo_99 (by decide) (by first | omega | exact b01_R _ | exact bP_R _) (by first | omega | exact b01_R _ | exact bP_R _) (fun c99 => ?_) (fun c99 => ?_)
            · refine aw_iload_n G dX10_isSo_110 rfl ?_
              refine aw_iconst G dX10_isSo_111 ?_
              refine aw_icmp_ne (tgt := 126) G dX10_isSo_112 (by decide) (by first | omega | exact b01_R _ | exact bP_R _) (by first | omega | exact b01_R _ | exact bP_R _) (fun c112 => ?_) (fun c112 => ?_)
              · refine aw_iinc_3 G dX10_isSo_126 rfl (k := ?_)
                refine aw_goto (tgt := 72) G dX10_isSo_129 (by decide) ?_
                refine ih (i + 1) (by omega) (by omega) (fun j a b => ?_)
                by_cases e : j = i
                · subst e
                  exact ⟨fun _ _ => by omega, fun z => by first | omega | exact (tm2 _).mp (by omega), fun _ => by omega⟩
                · exact hq j a (by omega)
              · refine aw_aload_n G dX10_isSo_115 rfl ?_
                refine aw_iload_n G dX10_isSo_116 rfl ?_
                refine aw_iaload G dX10_isSo_117 (by first | decide | assumption | omega) (by first | rfl | assumption) (by first | decide | assumption) (by omega) ?_
                refine aw_iconst G dX10_isSo_118 ?_
                refine aw_iload_n G dX10_isSo_119 rfl ?_
                refine aw_imul G dX10_isSo_120 ?_
                refine aw_icmp_le (tgt := 126) G dX10_isSo_121 (by decide) (by exact hR _ (by omega) (by omega)) (by omega) (fun c121 => ?_) (fun c121 => ?_)
                · refine aw_iinc_3 G dX10_isSo_126 rfl (k := ?_)
                  refine aw_goto (tgt := 72) G dX10_isSo_129 (by decide) ?_
                  refine ih (i + 1) (by omega) (by omega) (fun j a b => ?_)
                  by_cases e : j = i
                  · subst e
                    exact ⟨fun _ _ => by omega, fun z => by first | omega | exact (tm2 _).mp (by omega), fun _ => by omega⟩
                  · exact hq j a (by omega)
                · refine aw_iconst G dX10_isSo_124 ?_
                  exact aw_zret G T dX10_isSo_125 (by first | exact Or.inl rfl | exact Or.inr rfl | assumption) (⟨(bP_f (isSo_f hr s1_0 s1_1 s1_2 (i := i) (by omega) (by first | exact Or.inl ⟨by omega, by omega, by omega⟩ | exact Or.inr (Or.inl ⟨by omega, fun q => c107 ((tm2 _).mpr q)⟩) | exact Or.inr (Or.inr ⟨by omega, by omega⟩)))).symm, rfl⟩)
            · refine aw_aload_n G dX10_isSo_102 rfl ?_
              refine aw_iload_n G dX10_isSo_103 rfl ?_
              refine aw_iaload G dX10_isSo_104 (by first | decide | assumption | omega) (by first | rfl | assumption) (by first | decide | assumption) (by omega) ?_
              refine aw_iconst G dX10_isSo_105 ?_
              refine aw_irem G dX10_isSo_106 (by exact hR _ (by omega) (by omega)) (by first | omega | exact b01_R _ | exact bP_R _) ?_
              refine aw_if_ne (tgt := 124) G dX10_isSo_107 (by decide) (tm2_R _) (fun c107 => ?_) (fun c107 => ?_)
              · refine aw_iconst G dX10_isSo_124 ?_
                exact aw_zret G T dX10_isSo_125 (by first | exact Or.inl rfl | exact Or.inr rfl | assumption) (⟨(bP_f (isSo_f hr s1_0 s1_1 s1_2 (i := i) (by omega) (by first | exact Or.inl ⟨by omega, by omega, by omega⟩ | exact Or.inr (Or.inl ⟨by omega, fun q => c107 ((tm2 _).mpr q)⟩) | exact Or.inr (Or.inr ⟨by omega, by omega⟩)))).symm, rfl⟩)
              · refine aw_iload_n G dX10_isSo_110 rfl ?_
                refine aw_iconst G dX10_isSo_111 ?_
                refine aw_icmp_ne (tgt := 126) G dX10_isSo_112 (by decide) (by first | omega | exact b01_R _ | exact bP_R _) (by first | omega | exact b01_R _ | exact bP_R _) (fun c112 => ?_) (fun c112 => ?_)
                · refine aw_iinc_3 G dX10_isSo_126 rfl (k := ?_)
                  refine aw_goto (tgt := 72) G dX10_isSo_129 (by decide) ?_
                  refine ih (i + 1) (by omega) (by omega) (fun j a b => ?_)
                  by_cases e : j = i
                  · subst e
                    exact ⟨fun _ _ => by omega, fun z => by first | omega | exact (tm2 _).mp (by omega), fun _ => by omega⟩
                  · exact hq j a (by omega)
                · refine aw_aload_n G dX10_isSo_115 rfl ?_
                  refine aw_iload_n G dX10_isSo_116 rfl ?_
                  refine aw_iaload G dX10_isSo_117 (by first | decide | assumption | omega) (by first | rfl | assumption) (by first | decide | assumption) (by omega) ?_
                  refine aw_iconst G dX10_isSo_118 ?_
                  refine aw_iload_n G dX10_isSo_119 rfl ?_
                  refine aw_imul G dX10_isSo_120 ?_
                  refine aw_icmp_le (tgt := 126) G dX10_isSo_121 (by decide) (by exact hR _ (by omega) (by omega)) (by omega) (fun c121 => ?_) (fun c121 => ?_)
                  · refine aw_iinc_3 G dX10_isSo_126 rfl (k := ?_)
                    refine aw_goto (tgt := 72) G dX10_isSo_129 (by decide) ?_
                    refine ih (i + 1) (by omega) (by omega) (fun j a b => ?_)
                    by_cases e : j = i
                    · subst e
                      exact ⟨fun _ _ => by omega, fun z => by first | omega | exact (tm2 _).mp (by omega), fun _ => by omega⟩
                    · exact hq j a (by omega)
                  · refine aw_iconst G dX10_isSo_124 ?_
                    exact aw_zret G T dX10_isSo_125 (by first | exact Or.inl rfl | exact Or.inr rfl | assumption) (⟨(bP_f (isSo_f hr s1_0 s1_1 s1_2 (i := i) (by omega) (by first | exact Or.inl ⟨by omega, by omega, by omega⟩ | exact Or.inr (Or.inl ⟨by omega, fun q => c107 ((tm2 _).mpr q)⟩) | exact Or.inr (Or.inr ⟨by omega, by omega⟩)))).symm, rfl⟩)
          · refine aw_aload_n G dX10_isSo_86 rfl ?_
            refine aw_iload_n G dX10_isSo_87 rfl ?_
            refine aw_iaload G dX10_isSo_88 (by first | decide | assumption | omega) (by first | rfl | assumption) (by first | decide | assumption) (by omega) ?_
            refine aw_aload_n G dX10_isSo_89 rfl ?_
            refine aw_iload_n G dX10_isSo_90 rfl ?_
            refine aw_iconst G dX10_isSo_91 ?_
            refine aw_isub G dX10_isSo_92 ?_
            refine aw_iaload G dX10_isSo_93 (by first | decide | assumption | omega) (by first | rfl | assumption) (by first | decide | assumption) (by omega) ?_
            refine aw_icmp_le (tgt := 124) G dX10_isSo_94 (by decide) (by exact hR _ (by omega) (by omega)) (by exact hR _ (by omega) (by omega)) (fun c94 => ?_) (fun c94 => ?_)
            · refine aw_iconst G dX10_isSo_124 ?_
              exact aw_zret G T dX10_isSo_125 (by first | exact Or.inl rfl | exact Or.inr rfl | assumption) (⟨(bP_f (isSo_f hr s1_0 s1_1 s1_2 (i := i) (by omega) (by first | exact Or.inl ⟨by omega, by omega, by omega⟩ | exact Or.inr (Or.inl ⟨by omega, fun q => c107 ((tm2 _).mpr q)⟩) | exact Or.inr (Or.inr ⟨by omega, by omega⟩)))).symm, rfl⟩)
            · refine aw_iload_n G dX10_isSo_97 rfl ?_
              refine aw_iconst G dX10_isSo_98 ?_
              refine aw_icmp_ne (tgt := 110) G dX10_isSo_99 (by decide) (by first | omega | exact b01_R _ | exact bP_R _) (by first | omega | exact b01_R _ | exact bP_R _) (fun c99 => ?_) (fun c99 => ?_)
              · refine aw_iload_n G dX10_isSo_110 rfl ?_
                refine aw_iconst G dX10_isSo_111 ?_
                refine aw_icmp_ne (tgt := 126) G dX10_isSo_112 (by decide) (by first | omega | exact b01_R _ | exact bP_R _) (by first | omega | exact b01_R _ | exact bP_R _) (fun c112 => ?_) (fun c112 => ?_)
                · refine aw_iinc_3 G dX10_isSo_126 rfl (k := ?_)
                  refine aw_goto (tgt := 72) G dX10_isSo_129 (by decide) ?_
                  refine ih (i + 1) (by omega) (by omega) (fun j a b => ?_)
                  by_cases e : j = i
                  · subst e
                    exact ⟨fun _ _ => by omega, fun z => by first | omega | exact (tm2 _).mp (by omega), fun _ => by omega⟩
                  · exact hq j a (by omega)
                · refine aw_aload_n G dX10_isSo_115 rfl ?_
                  refine aw_iload_n G dX10_isSo_116 rfl ?_
                  refine aw_iaload G dX10_isSo_117 (by first | decide | assumption | omega) (by first | rfl | assumption) (by first | decide | assumption) (by omega) ?_
                  refine aw_iconst G dX10_isSo_118 ?_
                  refine aw_iload_n G dX10_isSo_119 rfl ?_
                  refine aw_imul G dX10_isSo_120 ?_
                  refine aw_icmp_le (tgt := 126) G dX10_isSo_121 (by decide) (by exact hR _ (by omega) (by omega)) (by omega) (fun c121 => ?_) (fun c121 => ?_)
                  · refine aw_iinc_3 G dX10_isSo_126 rfl (k := ?_)
                    refine aw_goto (tgt := 72) G dX10_isSo_129 (by decide) ?_
                    refine ih (i + 1) (by omega) (by omega) (fun j a b => ?_)
                    by_cases e : j = i
                    · subst e
                      exact ⟨fun _ _ => by omega, fun z => by first | omega | exact (tm2 _).mp (by omega), fun _ => by omega⟩
                    · exact hq j a (by omega)
                  · refine aw_iconst G dX10_isSo_124 ?_
                    exact aw_zret G T dX10_isSo_125 (by first | exact Or.inl rfl | exact Or.inr rfl | assumption) (⟨(bP_f (isSo_f hr s1_0 s1_1 s1_2 (i := i) (by omega) (by first | exact Or.inl ⟨by omega, by omega, by omega⟩ | exact Or.inr (Or.inl ⟨by omega, fun q => c107 ((tm2 _).mpr q)⟩) | exact Or.inr (Or.inr ⟨by omega, by omega⟩)))).symm, rfl⟩)
              · refine aw_aload_n G dX10_isSo_102 rfl ?_
                refine aw_iload_n G dX10_isSo_103 rfl ?_
                refine aw_iaload G dX10_isSo_104 (by first | decide | assumption | omega) (by first | rfl | assumption) (by first | decide | assumption) (by omega) ?_
                refine aw_iconst G dX10_isSo_105 ?_
                refine aw_irem G dX10_isSo_106 (by exact hR _ (by omega) (by omega)) (by first | omega | exact b01_R _ | exact bP_R _) ?_
                refine aw_if_ne (tgt := 124) G dX10_isSo_107 (by decide) (tm2_R _) (fun c107 => ?_) (fun c107 => ?_)
                · refine aw_iconst G dX10_isSo_124 ?_
                  exact aw_zret G T dX10_isSo_125 (by first | exact Or.inl rfl | exact Or.inr rfl | assumption) (⟨(bP_f (isSo_f hr s1_0 s1_1 s1_2 (i := i) (by omega) (by first | exact Or.inl ⟨by omega, by omega, by omega⟩ | exact Or.inr (Or.inl ⟨by omega, fun q => c107 ((tm2 _).mpr q)⟩) | exact Or.inr (Or.inr ⟨by omega, by omega⟩)))).symm, rfl⟩)
                · refine aw_iload_n G dX10_isSo_110 rfl ?_
                  refine aw_iconst G dX10_isSo_111 ?_
                  refine aw_icmp_ne (tgt := 126) G dX10_isSo_112 (by decide) (by first | omega | exact b01_R _ | exact bP_R _) (by first | omega | exact b01_R _ | exact bP_R _) (fun c112 => ?_) (fun c112 => ?_)
                  · refine aw_iinc_3 G dX10_isSo_126 rfl (k := ?_)
                    refine aw_goto (tgt := 72) G dX10_isSo_129 (by decide) ?_
                    refine ih (i + 1) (by omega) (by omega) (fun j a b => ?_)
                    by_cases e : j = i
                    · subst e
                      exact ⟨fun _ _ => by omega, fun z => by first | omega | exact (tm2 _).mp (by omega), fun _ => by omega⟩
                    · exact hq j a (by omega)
                  · refine aw_aload_n G dX10_isSo_115 rfl ?_
                    refine aw_iload_n G dX10_isSo_116 rfl ?_
                    refine aw_iaload G dX10_isSo_117 (by first | decide | assumption | omega) (by first | rfl | assumption) (by first | decide | assumption) (by omega) ?_
                    refine aw_iconst G dX10_isSo_118 ?_
                    refine aw_iload_n G dX10_isSo_119 rfl ?_
                    refine aw_imul G dX10_isSo_120 ?_
                    refine aw_icmp_le (tgt := 126) G dX10_isSo_121 (by decide) (by exact hR _ (by omega) (by omega)) (by omega) (fun c121 => ?_) (fun c121 => ?_)
                    · refine aw_iinc_3 G dX10_isSo_126 rfl (k := ?_)
                      refine aw_goto (tgt := 72) G dX10_isSo_129 (by decide) ?_
                      refine ih (i + 1) (by omega) (by omega) (fun j a b => ?_)
                      by_cases e : j = i
                      · subst e
                        exact ⟨fun _ _ => by omega, fun z => by first | omega | exact (tm2 _).mp (by omega), fun _ => by omega⟩
                      · exact hq j a (by omega)
                    · refine aw_iconst G dX10_isSo_124 ?_
                      exact aw_zret G T dX10_isSo_125 (by first | exact Or.inl rfl | exact Or.inr rfl | assumption) (⟨(bP_f (isSo_f hr s1_0 s1_1 s1_2 (i := i) (by omega) (by first | exact Or.inl ⟨by omega, by omega, by omega⟩ | exact Or.inr (Or.inl ⟨by omega, fun q => c107 ((tm2 _).mpr q)⟩) | exact Or.inr (Or.inr ⟨by omega, by omega⟩)))).symm, rfl⟩)
  exact loop (n.toNat + 1) 0 (by omega) (by omega) (fun j a b => by omega)
