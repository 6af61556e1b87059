theorem skip_i {k : Int} (hk : 0 ≤ k) (L m : Nat) (hm : m + 1 ≤ L) : ∀ (t : Nat) (f : Int → Int), (t : Int) = k - f ((L : Int) - m - 1) → (∀ j : Int, (L : Int) - m ≤ j → j < L → f j = 0) → (∀ j : Int, 0 ≤ f j ∧ f j ≤ k) → itr (nxT k L) ((t + 1) * (k.toNat + 1) ^ m) f = nxT k (L - m - 1) (upf f ((L : Int) - m - 1) 0)
  | 0, f, ht, h0, hf => by
    rw [Nat.zero_add, Nat.one_mul, itr_b hk L m f (by omega) h0]
    obtain ⟨q, hq⟩ : ∃ q, L - m = q + 1 := ⟨L - m - 1, by omega⟩
    rw [hq, nxT_s, show (q : Int) = (L : Int) - m - 1 by omega, if_neg (by omega), show q + 1 - 1 = q by omega]
  | t + 1, f, ht, h0, hf => by
    have hi := hf ((L : Int) - m - 1)
    have e2 : upf (upf f ((L : Int) - m - 1) (f ((L : Int) - m - 1) + 1)) ((L : Int) - m - 1) 0 = upf f ((L : Int) - m - 1) 0 := by
      funext j
      unfold upf
      split <;> rfl
    rw [show (t + 1 + 1) * (k.toNat + 1) ^ m = (k.toNat + 1) ^ m + (t + 1) * (k.toNat + 1) ^ m by rw [Nat.succ_mul (t + 1)]; omega, itr_a, itr_b hk L m f (by omega) h0]
    obtain ⟨q, hq⟩ : ∃ q, L - m = q + 1 := ⟨L - m - 1, by omega⟩
    rw [hq, nxT_s, show (q : Int) = (L : Int) - m - 1 by omega, if_pos (by omega), ← hq]
    rw [skip_i hk L m hm t (upf f ((L : Int) - m - 1) (f ((L : Int) - m - 1) + 1)) (by rw [upf_at]; omega) (fun j a b => by rw [upf_o (by omega)]; exact h0 j a b) (fun j => by
      have := hf j
      unfold upf
      split <;> omega), e2]
theorem wayI_0 {Q : (Int → Int) → Prop} {s : (Int → Int) → Int → Int} {a b : Nat} {f : Int → Int} {i : Int} (hi : 0 ≤ i) (h : wayN Q s a f = 0) : wayI Q s (a + b) f i = wayI Q s b (itr s a f) i := by
  rw [wayI_a Q s a b f i hi, h, if_neg (by omega), show i - 0 = i by omega]
