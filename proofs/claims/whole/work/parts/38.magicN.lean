/-- all sums are r -/
def gQ (W : Int → Int → Int) (L n r : Int) (f : Int → Int) : Prop := ∀ p : Int, 0 ≤ p → p < n → tsum W f L p = r
def gF (L r : Int) : Nat := ((r + 1).toNat + 1) ^ L.toNat
noncomputable def gN (W : Int → Int → Int) (L n r : Int) : Int := wayN (gQ W L n r) (nxT (r + 1) L.toNat) (gF L r) (fun _ => 0)
noncomputable def gI (W : Int → Int → Int) (L n r i : Int) : Option (Int → Int) := wayI (gQ W L n r) (nxT (r + 1) L.toNat) (gF L r) (fun _ => 0) i
noncomputable def gaN (α : St) (r : Int) : Int := gN (nwt α 75) (α 75 1) (α 75 0) r
noncomputable def gaI (α : St) (r i : Int) : Option (Int → Int) := gI (nwt α 75) (α 75 1) (α 75 0) r i
noncomputable def an_magic (α : St) (r i l : Int) : Int := if r < 0 ∨ i < -1 then -4 else if 6 < r then -6 else if 0 ≤ i ∧ ¬ (0 ≤ l ∧ l < α 75 1) then -1 else if i < 0 then gaN α r else (match gaI α r i with | none => -9 | some f => f l)
def nx_magic (α : St) (r i l : Int) : St := if r < 0 ∨ i < -1 then rf α (-4) else if 6 < r then rf α (-6) else if 0 ≤ i ∧ ¬ (0 ≤ l ∧ l < α 75 1) then rf α (-1) else α
theorem gaI_n {α : St} {r i : Int} (h : 0 ≤ i) : gaI α r i = none ↔ gaN α r ≤ i := wayI_n _ _ _ _ _ h
theorem gQ_e {α σ : St} (h : NetEq σ 1 α 75) (hL : σ 1 1 ≤ 8) (r : Int) : gQ (nwt σ 1) (σ 1 1) (σ 1 0) r = gQ (nwt α 75) (α 75 1) (α 75 0) r := by
  funext f
  unfold gQ
  rw [tsum_e h hL, h.1]
theorem gN_e {α σ : St} (h : NetEq σ 1 α 75) (hL : σ 1 1 ≤ 8) (r : Int) : gN (nwt σ 1) (σ 1 1) (σ 1 0) r = gaN α r := by
  unfold gaN gN
  rw [gQ_e h hL, h.2.1]
theorem gI_e {α σ : St} (h : NetEq σ 1 α 75) (hL : σ 1 1 ≤ 8) (r i : Int) : gI (nwt σ 1) (σ 1 1) (σ 1 0) r i = gaI α r i := by
  unfold gaI gI
  rw [gQ_e h hL, h.2.1]
/-- greater labels, greater sums -/
theorem tsum_mono {W : Int → Int → Int} {f g : Int → Int} {L p : Int} (h : ∀ l : Int, 0 ≤ l → l < L → 0 ≤ W p l ∧ f l ≤ g l) : tsum W f L p ≤ tsum W g L p := by
  have key : ∀ n : Nat, ((n : Int) ≤ L ∨ n = 0) → sumTo (fun l => W p l * f l) n ≤ sumTo (fun l => W p l * g l) n := by
    intro n
    induction n with
    | zero => intro _; exact Int.le_refl _
    | succ n ih =>
      intro hn
      have h1 := ih (by omega)
      have h2 := h n (by omega) (by omega)
      have h3 := Int.mul_le_mul_of_nonneg_left h2.2 h2.1
      rw [sumTo_s, sumTo_s]
      omega
  exact key L.toNat (by omega)
/-- labels that differ only on lines without weight at a point -/
theorem tsum_off {W : Int → Int → Int} {f g : Int → Int} {L p : Int} (h : ∀ l : Int, 0 ≤ l → l < L → W p l = 0 ∨ f l = g l) : tsum W f L p = tsum W g L p := by
  unfold tsum
  refine sumTo_c fun l a b => ?_
  rcases h l a (by omega) with q | q
  · rw [q, Int.zero_mul, Int.zero_mul]
  · rw [q]
/-- a label is not above a sum at a point where its line has weight -/
theorem tsum_ge {W : Int → Int → Int} {f : Int → Int} {L p i : Int} (hi : 0 ≤ i ∧ i < L) (hw : 1 ≤ W p i) (h : ∀ l : Int, 0 ≤ l → l < L → 0 ≤ W p l ∧ 0 ≤ f l) : f i ≤ tsum W f L p := by
  have h1 := tsum_mono (W := W) (f := upf (fun _ => 0) i (f i)) (g := f) (L := L) (p := p) (fun l a b => ⟨(h l a b).1, by
    have := h l a b
    unfold upf
    split
    · rename_i e; rw [e]; exact Int.le_refl _
    · exact this.2⟩)
  rw [tsum_up hi, tsum_0] at h1
  have h2 := Int.mul_le_mul_of_nonneg_left hw (h i hi.1 hi.2).2
  rw [Int.mul_one] at h2
  have h3 : (f i - 0) * W p i = f i * W p i := by rw [show f i - 0 = f i by omega]
  omega
theorem kw_1 {k f : Int} (hk : 0 ≤ k ∧ k ≤ 5) (hf : 0 ≤ f) : 1 ≤ kforth k f ∨ 1 ≤ kback k f := by
  unfold kforth kback
  (repeat' split) <;> omega
