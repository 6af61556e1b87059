def itr (s : (Int → Int) → Int → Int) : Nat → (Int → Int) → Int → Int
  | 0, f => f
  | n + 1, f => itr s n (s f)
theorem itr_s (s : (Int → Int) → Int → Int) (n : Nat) (f : Int → Int) : itr s (n + 1) f = itr s n (s f) := rfl
theorem itr_a (s : (Int → Int) → Int → Int) : ∀ (a b : Nat) (f : Int → Int), itr s (a + b) f = itr s b (itr s a f)
  | 0, b, f => by rw [Nat.zero_add]; rfl
  | a + 1, b, f => by rw [show a + 1 + b = a + b + 1 by omega, itr_s, itr_s, itr_a s a b]
/-- runs add up -/
theorem wayN_a (Q : (Int → Int) → Prop) (s : (Int → Int) → Int → Int) : ∀ (a b : Nat) (f : Int → Int), wayN Q s (a + b) f = wayN Q s a f + wayN Q s b (itr s a f)
  | 0, b, f => by rw [Nat.zero_add]; unfold wayN itr; cases b <;> simp [wayN]
  | a + 1, b, f => by
    rw [show a + 1 + b = a + b + 1 by omega, wayN_s, wayN_s, itr_s, wayN_a Q s a b]
    omega
theorem wayI_a (Q : (Int → Int) → Prop) (s : (Int → Int) → Int → Int) : ∀ (a b : Nat) (f : Int → Int) (i : Int), 0 ≤ i → wayI Q s (a + b) f i = (if i < wayN Q s a f then wayI Q s a f i else wayI Q s b (itr s a f) (i - wayN Q s a f))
  | 0, b, f, i, hi => by
    rw [Nat.zero_add]
    have h0 : wayN Q s 0 f = 0 := rfl
    rw [h0, if_neg (by omega), show i - 0 = i by omega]
    rfl
  | a + 1, b, f, i, hi => by
    rw [show a + 1 + b = a + b + 1 by omega, wayI_s, wayI_s, wayN_s, itr_s]
    have hr := wayN_R Q s a (s f)
    by_cases c : bP (Q f) = 1
    · rw [if_pos c, if_pos c, c]
      by_cases z : i = 0
      · rw [if_pos z, if_pos (show i < 1 + wayN Q s a (s f) by omega), if_pos z]
      · rw [if_neg z, if_neg z, wayI_a Q s a b (s f) (i - 1) (by omega)]
        by_cases y : i - 1 < wayN Q s a (s f)
        · rw [if_pos y, if_pos (show i < 1 + wayN Q s a (s f) by omega)]
        · rw [if_neg y, if_neg (show ¬ i < 1 + wayN Q s a (s f) by omega), show i - (1 + wayN Q s a (s f)) = i - 1 - wayN Q s a (s f) by omega]
    · have c0 : bP (Q f) = 0 := by rcases bP_01 (Q f) with q | q <;> omega
      rw [if_neg c, if_neg c, c0, Int.zero_add, wayI_a Q s a b (s f) i hi]
/-- a run of which none is so -/
theorem wayN_0 (Q : (Int → Int) → Prop) (s : (Int → Int) → Int → Int) : ∀ (a : Nat) (f : Int → Int), (∀ n : Nat, n < a → ¬ Q (itr s n f)) → wayN Q s a f = 0
  | 0, _, _ => rfl
  | a + 1, f, h => by
    rw [wayN_s, bP_f (show ¬ Q f from h 0 (by omega)), wayN_0 Q s a (s f) (fun n hn => h (n + 1) (by omega))]
    rfl
/-- labels whose last m are 0: all labels of these m, and then the next ahead of them -/
theorem itr_b {k : Int} (hk : 0 ≤ k) (L : Nat) : ∀ (m : Nat) (f : Int → Int), m ≤ L → (∀ j : Int, (L : Int) - m ≤ j → j < L → f j = 0) → itr (nxT k L) ((k.toNat + 1) ^ m) f = nxT k (L - m) f
  | 0, f, _, _ => rfl
  | m + 1, f, hm, h0 => by
    have step : ∀ c : Nat, (c : Int) ≤ k → itr (nxT k L) (c * (k.toNat + 1) ^ m) f = upf f ((L : Int) - m - 1) c := by
      intro c
      induction c with
      | zero =>
        intro _
        rw [Nat.zero_mul]
        funext j
        unfold itr upf
        split
        · rename_i e
          rw [e, h0 _ (by omega) (by omega)]
          rfl
        · rfl
      | succ c ih =>
        intro hc
        rw [Nat.succ_mul, itr_a, ih (by omega), itr_b hk L m _ (by omega) (fun j a b => by rw [upf_o (by omega)]; exact h0 j (by omega) b)]
        obtain ⟨q, hq⟩ : ∃ q, L - m = q + 1 := ⟨L - m - 1, by omega⟩
        rw [hq, nxT_s, show (q : Int) = (L : Int) - m - 1 by omega, upf_at, if_pos (by omega)]
        funext j
        unfold upf
        split
        · omega
        · rfl
    have hk' : k.toNat + 1 = k.toNat + 1 := rfl
    rw [Nat.pow_succ, Nat.mul_comm, Nat.succ_mul, itr_a, step k.toNat (by omega), itr_b hk L m _ (by omega) (fun j a b => by rw [upf_o (by omega)]; exact h0 j (by omega) b)]
    obtain ⟨q, hq⟩ : ∃ q, L - m = q + 1 := ⟨L - m - 1, by omega⟩
    rw [hq, nxT_s, show (q : Int) = (L : Int) - m - 1 by omega, upf_at, if_neg (by omega), show L - (m + 1) = q by omega]
    congr 1
    funext j
    unfold upf
    split
    · rename_i e
      rw [e, h0 _ (by omega) (by omega)]
    · rfl
