theorem one_w {σ : St} {b : Nat} (hN : NetOK σ b) {l : Int} (h0 : 0 ≤ l) (h1 : l < σ b 1) : (∃ p : Int, 0 ≤ p ∧ p < σ b 0 ∧ 1 ≤ nwt σ b p l) ∧ ∀ p : Int, 0 ≤ nwt σ b p l := by
  obtain ⟨n1, n2, n3, n4, n5, n6⟩ := hN
  have h5 := n5 l h0 (by omega)
  have h6 := n6 l h0 h1
  have hR : ∀ p : Int, 0 ≤ nwt σ b p l := fun p => (nwt_R ⟨h5.2.2.1, h5.2.2.2.1⟩).1
  have hk := kw_1 (k := σ (b + 1) l) (f := σ (b + 2) l) ⟨h5.1, h5.2.1⟩ h5.2.2.1
  have hf0 : 0 ≤ kforth (σ (b + 1) l) (σ (b + 2) l) := by
    have := h5.2.2.1
    unfold kforth
    (repeat' split) <;> omega
  have hb0 : 0 ≤ kback (σ (b + 1) l) (σ (b + 2) l) := by
    unfold kback
    (repeat' split) <;> omega
  refine ⟨?_, hR⟩
  rcases hk with q | q
  · refine ⟨σ (b + 3) l, by omega, h6.1, ?_⟩
    unfold nwt
    rw [if_pos rfl]
    split <;> omega
  · refine ⟨σ (b + 4) l, by omega, h6.2, ?_⟩
    unfold nwt
    rw [if_pos (show σ (b + 4) l = σ (b + 4) l from rfl)]
    split <;> omega
/-- labels of which only the last that isn't 0 may be k -/
def gW (k L : Int) (f : Int → Int) : Prop := (∀ j : Int, 0 ≤ f j ∧ f j ≤ k) ∧ (∀ j j' : Int, f j = k → j < j' → f j' = 0) ∧ ∀ j : Int, ¬ (0 ≤ j ∧ j < L) → f j = 0
theorem gW_0 {k L : Int} (hk : 0 < k) : gW k L (fun _ => 0) := ⟨fun _ => ⟨Int.le_refl 0, (by omega : (0 : Int) ≤ k)⟩, fun _ _ _ _ => rfl, fun _ _ => rfl⟩
theorem gW_up {k L : Int} {f : Int → Int} (h : gW k L f) (hk : 0 < k) (hL : 0 < L) (hlt : ∀ j : Int, 0 ≤ j → j < L → f j < k) : gW k L (upf f (L - 1) (f (L - 1) + 1)) := by
  obtain ⟨h1, h2, h3⟩ := h
  refine ⟨fun j => ?_, fun j j' a b => ?_, fun j a => ?_⟩
  · have := h1 j
    have := h1 (L - 1)
    have := hlt (L - 1) (by omega) (by omega)
    unfold upf
    split <;> omega
  · by_cases e : j = L - 1
    · rw [upf_o (by omega)]
      exact h3 j' (by omega)
    · rw [upf_o e] at a
      by_cases c : 0 ≤ j ∧ j < L
      · have := hlt j c.1 c.2
        omega
      · have := h3 j c
        omega
  · rw [upf_o (by omega)]
    exact h3 j a
theorem gW_pa {k L i : Int} {f : Int → Int} (h : gW k L f) (hk : 0 < k) (hi : 1 ≤ i ∧ i < L) (hfi : f i ≠ 0) (h0 : ∀ j : Int, i < j → j < L → f j = 0) : f (i - 1) < k ∧ gW k L (upf (upf f i 0) (i - 1) (f (i - 1) + 1)) := by
  obtain ⟨h1, h2, h3⟩ := h
  have hlt : ∀ j : Int, j < i → f j < k := fun j a => by
    have := h1 j
    by_cases e : f j = k
    · exact absurd (h2 j i e a) hfi
    · omega
  refine ⟨hlt (i - 1) (by omega), fun j => ?_, fun j j' a b => ?_, fun j a => ?_⟩
  · have := h1 j
    have := h1 (i - 1)
    have := hlt (i - 1) (by omega)
    unfold upf
    (repeat' split) <;> omega
  · have hz : ∀ j' : Int, i < j' → f j' = 0 := fun j' c => by
      by_cases d : j' < L
      · exact h0 j' c d
      · exact h3 j' (by omega)
    have key : i - 1 ≤ j := by
      by_cases c : j < i - 1
      · rw [upf_o (by omega), upf_o (by omega)] at a
        have := hlt j (by omega)
        omega
      · omega
    rw [upf_o (by omega)]
    by_cases e : j' = i
    · rw [e, upf_at]
    · rw [upf_o e]
      exact hz j' (by omega)
  · rw [upf_o (by omega), upf_o (by omega)]
    exact h3 j a
/-- not above at any point: no label above -/
theorem mg_le {σ : St} {b : Nat} (hN : NetOK σ b) {f : Int → Int} {r : Int} (hf : ∀ j : Int, 0 ≤ f j) (h : ¬ ∃ p : Int, 0 ≤ p ∧ p < σ b 0 ∧ r < tsum (nwt σ b) f (σ b 1) p) {j : Int} (h0 : 0 ≤ j) (h1 : j < σ b 1) : f j ≤ r := by
  obtain ⟨⟨p, p0, p1, p2⟩, -⟩ := one_w hN h0 h1
  have h2 := tsum_ge (W := nwt σ b) (f := f) (L := σ b 1) (p := p) ⟨h0, h1⟩ p2 (fun l a c => ⟨(one_w hN a c).2 p, hf l⟩)
  by_cases e : f j ≤ r
  · exact e
  · exact absurd ⟨p, p0, p1, by omega⟩ h
/-- above, and so also with greater labels -/
theorem mg_gt {σ : St} {b : Nat} (hN : NetOK σ b) {f g : Int → Int} {r : Int} (h : ∃ p : Int, 0 ≤ p ∧ p < σ b 0 ∧ r < tsum (nwt σ b) f (σ b 1) p) (hg : ∀ l : Int, 0 ≤ l → l < σ b 1 → f l ≤ g l) : ¬ gQ (nwt σ b) (σ b 1) (σ b 0) r g := fun q => by
  obtain ⟨p, p0, p1, p2⟩ := h
  have h2 := tsum_mono (W := nwt σ b) (f := f) (g := g) (L := σ b 1) (p := p) (fun l a c => ⟨(one_w hN a c).2 p, hg l a c⟩)
  have h3 := q p p0 p1
  omega
theorem mg_L {σ : St} {b : Nat} {f : Int → Int} {r : Int} (hr : 0 ≤ r) (h : ∃ p : Int, 0 ≤ p ∧ p < σ b 0 ∧ r < tsum (nwt σ b) f (σ b 1) p) (hL : 0 ≤ σ b 1) : 0 < σ b 1 := by
  obtain ⟨p, p0, p1, p2⟩ := h
  by_cases e : σ b 1 = 0
  · unfold tsum at p2
    rw [e] at p2
    have : sumTo (fun l => nwt σ b p l * f l) (0 : Int).toNat = 0 := rfl
    omega
  · omega
theorem up_1 {k L : Int} (hk : 0 ≤ k) {f : Int → Int} (hf : ∀ j : Int, 0 ≤ f j ∧ f j ≤ k) (hL : 0 < L) (hlt : ∀ j : Int, 0 ≤ j → j < L → f j < k) : nxT k L.toNat f = upf f (L - 1) (f (L - 1) + 1) ∧ valF (k + 1) (nxT k L.toNat f) L.toNat = valF (k + 1) f L.toNat + 1 ∧ valF (k + 1) f L.toNat + 1 < pw (k + 1) L.toNat := by
  obtain ⟨q, hq⟩ : ∃ q, L.toNat = q + 1 := ⟨L.toNat - 1, by omega⟩
  have h1 : nxT k L.toNat f = upf f (L - 1) (f (L - 1) + 1) := by
    have := hlt (L - 1) (by omega) (by omega)
    rw [hq, nxT_s, show (q : Int) = L - 1 by omega, if_pos this]
  refine ⟨h1, ?_⟩
  rcases nxT_v hk L.toNat f hf with ⟨v1, v2, -⟩ | ⟨v1, v2⟩
  · exact ⟨v2, v1⟩
  · have h2 := v2 (L - 1) (by omega) (by omega)
    have := hlt (L - 1) (by omega) (by omega)
    omega
theorem pa_1 {k L i : Int} (hk : 0 ≤ k) (hi : 1 ≤ i ∧ i < L) (Q : (Int → Int) → Prop) {f : Int → Int} {fu : Nat} (h0 : ∀ j : Int, i < j → j < L → f j = 0) (hf : ∀ j : Int, 0 ≤ f j ∧ f j ≤ k) (hQ : ∀ g : Int → Int, (∀ j : Int, j < i → g j = f j) → f i ≤ g i → (∀ j : Int, 0 ≤ g j ∧ g j ≤ k) → ¬ Q g) (hlt : f (i - 1) < k) (hv : valF (k + 1) f L.toNat + fu = pw (k + 1) L.toNat) : ∃ fu' : Nat, fu' < fu ∧ 1 ≤ fu' ∧ valF (k + 1) (upf (upf f i 0) (i - 1) (f (i - 1) + 1)) L.toNat + fu' = pw (k + 1) L.toNat ∧ wayN Q (nxT k L.toNat) fu f = wayN Q (nxT k L.toNat) fu' (upf (upf f i 0) (i - 1) (f (i - 1) + 1)) ∧ ∀ x : Int, 0 ≤ x → wayI Q (nxT k L.toNat) fu f x = wayI Q (nxT k L.toNat) fu' (upf (upf f i 0) (i - 1) (f (i - 1) + 1)) x := by
  obtain ⟨i', rfl⟩ : ∃ q : Nat, i = q := ⟨i.toNat, by omega⟩
  obtain ⟨m, rfl⟩ : ∃ m : Nat, L = ((i' + 1 + m : Nat) : Int) := ⟨L.toNat - i' - 1, by omega⟩
  rw [Int.toNat_natCast] at hv ⊢
  obtain ⟨fu', q1, q2, q3, q4, q5, q6⟩ := past_1 hk i' m Q f fu h0 hf hQ (by omega) hlt hv
  exact ⟨fu', q1, q2, q3, q5, q6⟩
theorem pa_0 {k L : Int} (hk : 0 ≤ k) (hL : 0 < L) (Q : (Int → Int) → Prop) {f : Int → Int} {fu : Nat} (h0 : ∀ j : Int, 0 < j → j < L → f j = 0) (hf : ∀ j : Int, 0 ≤ f j ∧ f j ≤ k) (hQ : ∀ g : Int → Int, f 0 ≤ g 0 → (∀ j : Int, 0 ≤ g j ∧ g j ≤ k) → ¬ Q g) (hv : valF (k + 1) f L.toNat + fu = pw (k + 1) L.toNat) : wayN Q (nxT k L.toNat) fu f = 0 := by
  obtain ⟨m, rfl⟩ : ∃ m : Nat, L = ((0 + 1 + m : Nat) : Int) := ⟨L.toNat - 1, by omega⟩
  rw [Int.toNat_natCast] at hv ⊢
  exact past_0 hk m Q f fu h0 hf (fun g _ b c => hQ g b c) hv
theorem wayI_no {Q : (Int → Int) → Prop} {s : (Int → Int) → Int → Int} {a : Nat} {f : Int → Int} {i : Int} (hi : 0 ≤ i) (h : wayN Q s a f = 0) : wayI Q s a f i = none := (wayI_n Q s a f i hi).mpr (by omega)
