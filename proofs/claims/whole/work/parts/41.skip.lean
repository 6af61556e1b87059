theorem itr_R {k : Int} (hk : 0 ≤ k) (L : Nat) : ∀ (n : Nat) (f : Int → Int), (∀ j : Int, 0 ≤ f j ∧ f j ≤ k) → ∀ j : Int, 0 ≤ itr (nxT k L) n f j ∧ itr (nxT k L) n f j ≤ k
  | 0, f, h => h
  | n + 1, f, h => itr_R hk L n _ (nxT_R hk L f h)
/-- a block of which none is so: those that have the same labels ahead -/
theorem blk_0 {k : Int} (hk : 0 ≤ k) (L m : Nat) (Q : (Int → Int) → Prop) (f : Int → Int) (hm : m ≤ L) (h0 : ∀ j : Int, (L : Int) - m ≤ j → j < L → f j = 0) (hf : ∀ j : Int, 0 ≤ f j ∧ f j ≤ k) (hQ : ∀ g : Int → Int, (∀ j : Int, j < (L : Int) - m → g j = f j) → (∀ j : Int, 0 ≤ g j ∧ g j ≤ k) → ¬ Q g) : wayN Q (nxT k L) ((k.toNat + 1) ^ m) f = 0 :=
  wayN_0 Q _ _ f fun n hn => hQ _ (itr_p hk L m f hm h0 n hn) (itr_R hk L n f hf)
/-- the blocks from a label on, none of which is so, passed over -/
theorem skip {k : Int} (hk : 0 ≤ k) (L m : Nat) (Q : (Int → Int) → Prop) (hm : m + 1 ≤ L) : ∀ (t : Nat) (f : Int → Int), (t : Int) = k - f ((L : Int) - m - 1) → (∀ j : Int, (L : Int) - m ≤ j → j < L → f j = 0) → (∀ j : Int, 0 ≤ f j ∧ f j ≤ k) → (∀ g : Int → Int, (∀ j : Int, j < (L : Int) - m - 1 → g j = f j) → f ((L : Int) - m - 1) ≤ g ((L : Int) - m - 1) → (∀ j : Int, 0 ≤ g j ∧ g j ≤ k) → ¬ Q g) → ∀ rest : Nat, wayN Q (nxT k L) ((t + 1) * (k.toNat + 1) ^ m + rest) f = wayN Q (nxT k L) rest (nxT k (L - m - 1) (upf f ((L : Int) - m - 1) 0))
  | 0, f, ht, h0, hf, hQ, rest => by
    rw [Nat.zero_add, Nat.one_mul, wayN_a, blk_0 hk L m Q f (by omega) h0 hf (fun g a b => hQ g (fun j c => a j (by omega)) (by rw [a _ (by omega)]; exact Int.le_refl _) b), itr_b hk L m f (by omega) h0, Int.zero_add]
    obtain ⟨q, hq⟩ : ∃ q, L - m = q + 1 := ⟨L - m - 1, by omega⟩
    rw [hq, nxT_s, show (q : Int) = (L : Int) - m - 1 by omega, if_neg (by omega), show q + 1 - 1 = q by omega]
  | t + 1, f, ht, h0, hf, hQ, rest => by
    have hi := hf ((L : Int) - m - 1)
    have e2 : upf (upf f ((L : Int) - m - 1) (f ((L : Int) - m - 1) + 1)) ((L : Int) - m - 1) 0 = upf f ((L : Int) - m - 1) 0 := by
      funext j
      unfold upf
      split <;> rfl
    rw [show (t + 1 + 1) * (k.toNat + 1) ^ m + rest = (k.toNat + 1) ^ m + ((t + 1) * (k.toNat + 1) ^ m + rest) by rw [Nat.succ_mul (t + 1)]; omega, wayN_a, blk_0 hk L m Q f (by omega) h0 hf (fun g a b => hQ g (fun j c => a j (by omega)) (by rw [a _ (by omega)]; exact Int.le_refl _) b), itr_b hk L m f (by omega) h0, Int.zero_add]
    obtain ⟨q, hq⟩ : ∃ q, L - m = q + 1 := ⟨L - m - 1, by omega⟩
    rw [hq, nxT_s, show (q : Int) = (L : Int) - m - 1 by omega, if_pos (by omega), ← hq]
    rw [skip hk L m Q hm t (upf f ((L : Int) - m - 1) (f ((L : Int) - m - 1) + 1)) (by rw [upf_at]; omega) (fun j a b => by rw [upf_o (by omega)]; exact h0 j a b) (fun j => by
      have := hf j
      unfold upf
      split <;> omega) (fun g a b c => hQ g (fun j d => by rw [a j d, upf_o (by omega)]) (by rw [upf_at] at b; omega) c) rest, e2]
