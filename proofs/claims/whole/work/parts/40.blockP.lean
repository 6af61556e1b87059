theorem pow_1 (b : Nat) : ∀ m : Nat, 0 < (b + 1) ^ m
  | 0 => by rw [Nat.pow_zero]; omega
  | m + 1 => by rw [Nat.pow_succ]; exact Nat.mul_pos (pow_1 b m) (by omega)
theorem itr_st {k : Int} (hk : 0 ≤ k) (L m : Nat) (f : Int → Int) (hm : m + 1 ≤ L) (h0 : ∀ j : Int, (L : Int) - m - 1 ≤ j → j < L → f j = 0) : ∀ c : Nat, (c : Int) ≤ k → itr (nxT k L) (c * (k.toNat + 1) ^ m) f = upf f ((L : Int) - m - 1) c := by
  intro c
  induction c with
  | zero =>
    intro _
    rw [Nat.zero_mul]
    funext j
    unfold itr upf
    split
    · rename_i e
      rw [e, h0 _ (by omega) (by omega)]
      rfl
    · rfl
  | succ c ih =>
    intro hc
    rw [Nat.succ_mul, itr_a, ih (by omega), itr_b hk L m _ (by omega) (fun j a b => by rw [upf_o (by omega)]; exact h0 j (by omega) b)]
    obtain ⟨q, hq⟩ : ∃ q, L - m = q + 1 := ⟨L - m - 1, by omega⟩
    rw [hq, nxT_s, show (q : Int) = (L : Int) - m - 1 by omega, upf_at, if_pos (by omega)]
    funext j
    unfold upf
    split
    · omega
    · rfl
theorem itr_p {k : Int} (hk : 0 ≤ k) (L : Nat) : ∀ (m : Nat) (f : Int → Int), m ≤ L → (∀ j : Int, (L : Int) - m ≤ j → j < L → f j = 0) → ∀ n : Nat, n < (k.toNat + 1) ^ m → ∀ j : Int, j < (L : Int) - m → itr (nxT k L) n f j = f j
  | 0, f, _, _, n, hn, j, hj => by
    rw [Nat.pow_zero] at hn
    rw [show n = 0 by omega]
    rfl
  | m + 1, f, hm, h0, n, hn, j, hj => by
    have hp : 0 < (k.toNat + 1) ^ m := pow_1 _ m
    have hd : n = n / (k.toNat + 1) ^ m * (k.toNat + 1) ^ m + n % (k.toNat + 1) ^ m := by
      rw [Nat.mul_comm]
      exact (Nat.div_add_mod n _).symm
    have hc : n / (k.toNat + 1) ^ m < k.toNat + 1 := by
      rw [Nat.div_lt_iff_lt_mul hp, Nat.mul_comm]
      rw [Nat.pow_succ] at hn
      exact hn
    have hr := Nat.mod_lt n hp
    rw [hd, itr_a, itr_st hk L m f hm (fun j a b => h0 j (by omega) b) _ (by omega), itr_p hk L m _ (by omega) (fun j a b => by rw [upf_o (by omega)]; exact h0 j (by omega) b) _ hr j (by omega), upf_o (by omega)]
