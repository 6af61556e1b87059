theorem pw_n {k : Int} (hk : 0 ≤ k) : ∀ m : Nat, pw (k + 1) m = (((k.toNat + 1) ^ m : Nat) : Int)
  | 0 => rfl
  | m + 1 => by
    have e : ((k.toNat + 1 : Nat) : Int) = k + 1 := by omega
    rw [pw_s, pw_n hk m, Nat.pow_succ, Int.natCast_mul, e]
theorem pw_8 {b : Int} (hb : 1 ≤ b ∧ b ≤ 8) : ∀ n : Nat, 1 ≤ pw b n ∧ pw b n ≤ 8 ^ n
  | 0 => by unfold pw; decide
  | n + 1 => by
    have h := pw_8 hb n
    rw [pw_s, Int.pow_succ]
    refine ⟨?_, Int.mul_le_mul h.2 hb.2 (by omega) (by omega)⟩
    have := Int.mul_le_mul h.1 hb.1 (by omega) (by omega)
    omega
theorem gF_e {L r : Int} (hr : 0 ≤ r) : (gF L r : Int) = pw (r + 1 + 1) L.toNat := by
  unfold gF
  exact (pw_n (by omega) _).symm
theorem gF_R {L r : Int} (hr : 0 ≤ r ∧ r ≤ 6) (hL : 0 ≤ L ∧ L ≤ 8) : 1 ≤ (gF L r : Int) ∧ (gF L r : Int) ≤ 16777216 := by
  rw [gF_e hr.1]
  have h := pw_8 (b := r + 1 + 1) (by omega) L.toNat
  have : ((8 : Int) ^ L.toNat) ≤ 16777216 := by
    have hl : L.toNat ≤ 8 := by omega
    generalize L.toNat = n at hl
    rcases (show n = 0 ∨ n = 1 ∨ n = 2 ∨ n = 3 ∨ n = 4 ∨ n = 5 ∨ n = 6 ∨ n = 7 ∨ n = 8 by omega) with e | e | e | e | e | e | e | e | e <;> rw [e] <;> decide
  omega
theorem valF_lt {k : Int} (hk : 0 ≤ k) {f : Int → Int} (hf : ∀ j : Int, 0 ≤ f j ∧ f j ≤ k) : ∀ m : Nat, 0 ≤ valF (k + 1) f m ∧ valF (k + 1) f m + 1 ≤ pw (k + 1) m
  | 0 => by unfold valF pw; omega
  | m + 1 => by
    have h := valF_lt hk hf m
    have hm := hf m
    rw [valF_s, pw_s, Int.mul_comm (pw (k + 1) m)]
    have h1 := Int.mul_le_mul_of_nonneg_left h.2 (show 0 ≤ k + 1 by omega)
    have h2 := Int.mul_nonneg (show 0 ≤ k + 1 by omega) h.1
    rw [Int.mul_add, Int.mul_one] at h1
    omega
/-- labels behind which there are only 0s -/
theorem valF_z (b : Int) (f : Int → Int) (i : Nat) : ∀ m : Nat, (∀ j : Int, (i : Int) ≤ j → j < (i : Int) + m → f j = 0) → valF b f (i + m) = valF b f i * pw b m
  | 0, _ => by
    show valF b f i = valF b f i * 1
    rw [Int.mul_one]
  | m + 1, h => by
    rw [show i + (m + 1) = i + m + 1 by omega, valF_s, h _ (by omega) (by omega), valF_z b f i m (fun j a c => h j a (by omega)), pw_s, Int.add_zero, Int.mul_comm b, Int.mul_assoc]
/-- what goesPast passes over, none of it so -/
theorem past_1 {k : Int} (hk : 0 ≤ k) (i m : Nat) (Q : (Int → Int) → Prop) (f : Int → Int) (fu : Nat) (h0 : ∀ j : Int, (i : Int) < j → j < ((i + 1 + m : Nat) : Int) → f j = 0) (hf : ∀ j : Int, 0 ≤ f j ∧ f j ≤ k) (hQ : ∀ g : Int → Int, (∀ j : Int, j < (i : Int) → g j = f j) → f i ≤ g i → (∀ j : Int, 0 ≤ g j ∧ g j ≤ k) → ¬ Q g) (hi : 1 ≤ i) (hlt : f ((i : Int) - 1) < k) (hv : valF (k + 1) f (i + 1 + m) + fu = pw (k + 1) (i + 1 + m)) : ∃ fu' : Nat, fu' < fu ∧ 1 ≤ fu' ∧ valF (k + 1) (upf (upf f i 0) ((i : Int) - 1) (f ((i : Int) - 1) + 1)) (i + 1 + m) + fu' = pw (k + 1) (i + 1 + m) ∧ (∀ j : Int, 0 ≤ upf (upf f i 0) ((i : Int) - 1) (f ((i : Int) - 1) + 1) j ∧ upf (upf f i 0) ((i : Int) - 1) (f ((i : Int) - 1) + 1) j ≤ k) ∧ wayN Q (nxT k (i + 1 + m)) fu f = wayN Q (nxT k (i + 1 + m)) fu' (upf (upf f i 0) ((i : Int) - 1) (f ((i : Int) - 1) + 1)) ∧ ∀ x : Int, 0 ≤ x → wayI Q (nxT k (i + 1 + m)) fu f x = wayI Q (nxT k (i + 1 + m)) fu' (upf (upf f i 0) ((i : Int) - 1) (f ((i : Int) - 1) + 1)) x := by
  have hfi := hf i
  have hg : ∀ j : Int, 0 ≤ upf (upf f i 0) ((i : Int) - 1) (f ((i : Int) - 1) + 1) j ∧ upf (upf f i 0) ((i : Int) - 1) (f ((i : Int) - 1) + 1) j ≤ k := fun j => by
    have hj := hf j
    have hj1 := hf ((i : Int) - 1)
    unfold upf
    (repeat' split) <;> omega
  have hl : nxT k i (upf f i 0) = upf (upf f i 0) ((i : Int) - 1) (f ((i : Int) - 1) + 1) := by
    obtain ⟨q, hq⟩ : ∃ q, i = q + 1 := ⟨i - 1, by omega⟩
    have hq2 : (q : Int) = (i : Int) - 1 := by omega
    conv => lhs; rw [hq]
    rw [nxT_s, hq2, show ((q + 1 : Nat) : Int) = (i : Int) by omega, upf_o (show (i : Int) - 1 ≠ i by omega), if_pos hlt]
  generalize hG : upf (upf f i 0) ((i : Int) - 1) (f ((i : Int) - 1) + 1) = g at hg hl ⊢
  obtain ⟨t, ht⟩ : ∃ t : Nat, (t : Int) = k - f i := ⟨(k - f i).toNat, by omega⟩
  have hp := pw_n hk m
  have hp1 := pow_1 k.toNat m
  have eL : ((i + 1 + m : Nat) : Int) - m - 1 = i := by omega
  have gi : ∀ j : Int, (i : Int) ≤ j → j < (i : Int) + ((1 + m : Nat) : Int) → g j = 0 := fun j a b => by
    rw [← hG, upf_o (by omega)]
    by_cases e : j = i
    · rw [e, upf_at]
    · rw [upf_o e]
      exact h0 j (by omega) (by omega)
  have vf : valF (k + 1) f (i + 1 + m) = (valF (k + 1) f i * (k + 1) + f i) * pw (k + 1) m := by
    rw [valF_z (k + 1) f (i + 1) m (fun j a b => h0 j (by omega) (by omega)), valF_s, Int.mul_comm (k + 1)]
  have vg : valF (k + 1) g (i + 1 + m) = (valF (k + 1) f i + 1) * (k + 1) * pw (k + 1) m := by
    have e1 : valF (k + 1) g i = valF (k + 1) f i + 1 := by
      obtain ⟨q, hq⟩ : ∃ q, i = q + 1 := ⟨i - 1, by omega⟩
      have hq2 : (q : Int) = (i : Int) - 1 := by omega
      have ec : valF (k + 1) g q = valF (k + 1) f q := valF_c fun j a b => by
        rw [← hG, upf_o (by omega), upf_o (by omega)]
      have eg : g q = f q + 1 := by rw [← hG, hq2, upf_at]
      rw [hq, valF_s, valF_s, ec, eg]
      omega
    have e2 := valF_z (k + 1) g (i + 1) m (fun j a b => gi j (by omega) (by omega))
    rw [e2, valF_s, e1, gi i (by omega) (by omega), Int.add_zero, Int.mul_comm (k + 1)]
  have vt : valF (k + 1) g (i + 1 + m) = valF (k + 1) f (i + 1 + m) + (((t + 1) * (k.toNat + 1) ^ m : Nat) : Int) := by
    rw [vg, vf, Int.natCast_mul, ← hp, ← Int.add_mul]
    congr 1
    rw [Int.add_mul, Int.one_mul]
    omega
  have hlt2 := (valF_lt hk hg (i + 1 + m)).2
  have hpos : 0 < (t + 1) * (k.toNat + 1) ^ m := Nat.mul_pos (by omega) hp1
  generalize hN : (t + 1) * (k.toNat + 1) ^ m = N at vt hpos
  obtain ⟨fu', hfu⟩ : ∃ q : Nat, fu = N + q := ⟨fu - N, by omega⟩
  have z0 : ∀ j : Int, ((i + 1 + m : Nat) : Int) - m ≤ j → j < ((i + 1 + m : Nat) : Int) → f j = 0 := fun j a b => h0 j (by omega) b
  have zQ : ∀ g : Int → Int, (∀ j : Int, j < ((i + 1 + m : Nat) : Int) - m - 1 → g j = f j) → f (((i + 1 + m : Nat) : Int) - m - 1) ≤ g (((i + 1 + m : Nat) : Int) - m - 1) → (∀ j : Int, 0 ≤ g j ∧ g j ≤ k) → ¬ Q g := by rw [eL]; exact hQ
  have hw0 := fun rest => skip hk (i + 1 + m) m Q (by omega) t f (by rw [eL]; exact ht) z0 hf zQ rest
  have hi0 := skip_i hk (i + 1 + m) m (by omega) t f (by rw [eL]; exact ht) z0 hf
  rw [hN, show i + 1 + m - m - 1 = i by omega, eL, hl] at hi0
  have hz := hw0 0
  rw [hN, Nat.add_zero] at hz
  have hz0 : wayN Q (nxT k (i + 1 + m)) N f = 0 := hz
  subst hfu
  refine ⟨fu', by omega, by omega, by omega, hg, ?_, fun x hx => ?_⟩
  · rw [wayN_a, hz0, hi0, Int.zero_add]
  · rw [wayI_0 hx hz0, hi0]
theorem past_0 {k : Int} (hk : 0 ≤ k) (m : Nat) (Q : (Int → Int) → Prop) (f : Int → Int) (fu : Nat) (h0 : ∀ j : Int, 0 < j → j < ((0 + 1 + m : Nat) : Int) → f j = 0) (hf : ∀ j : Int, 0 ≤ f j ∧ f j ≤ k) (hQ : ∀ g : Int → Int, (∀ j : Int, j < 0 → g j = f j) → f 0 ≤ g 0 → (∀ j : Int, 0 ≤ g j ∧ g j ≤ k) → ¬ Q g) (hv : valF (k + 1) f (0 + 1 + m) + fu = pw (k + 1) (0 + 1 + m)) : wayN Q (nxT k (0 + 1 + m)) fu f = 0 := by
  have hfi := hf 0
  obtain ⟨t, ht⟩ : ∃ t : Nat, (t : Int) = k - f 0 := ⟨(k - f 0).toNat, by omega⟩
  have hp := pw_n hk m
  have eL : ((0 + 1 + m : Nat) : Int) - m - 1 = 0 := by omega
  have vf : valF (k + 1) f (0 + 1 + m) = f 0 * pw (k + 1) m := by
    rw [valF_z (k + 1) f (0 + 1) m (fun j a b => h0 j (by omega) (by omega)), valF_s]
    show ((k + 1) * 0 + f ((0 : Nat) : Int)) * _ = _
    rw [Int.mul_zero, Int.zero_add]
    rfl
  have pp1 : pw (k + 1) (0 + 1 + m) = (k + 1) * pw (k + 1) m := by
    rw [show 0 + 1 + m = m + 1 by omega, pw_s, Int.mul_comm]
  have hfu : fu = (t + 1) * (k.toNat + 1) ^ m := by
    have : (fu : Int) = (((t + 1) * (k.toNat + 1) ^ m : Nat) : Int) := by
      rw [Int.natCast_mul, ← hp, show ((t + 1 : Nat) : Int) = k + 1 - f 0 by omega, Int.sub_mul]
      omega
    omega
  have hz := skip hk (0 + 1 + m) m Q (by omega) t f (by rw [eL]; exact ht) (fun j a b => h0 j (by omega) b) hf (by rw [eL]; exact hQ) 0
  rw [hfu]
  exact hz
