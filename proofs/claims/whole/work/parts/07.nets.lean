/-! what kinds and nets mean; a net's cells stand in a row: b (points, lines), b+1 kinds, b+2 figures, b+3 firsts, b+4 seconds, b+5 labels -/
def b01 (P : Prop) [Decidable P] : Int := if P then 1 else 0
theorem b01_t {P : Prop} [Decidable P] (h : P) : b01 P = 1 := if_pos h
theorem b01_f {P : Prop} [Decidable P] (h : ¬ P) : b01 P = 0 := if_neg h
theorem b01_01 (P : Prop) [Decidable P] : b01 P = 0 ∨ b01 P = 1 := by
  unfold b01
  split <;> simp
theorem b01_R (P : Prop) [Decidable P] : inR (b01 P) := by
  rcases b01_01 P with h | h <;> rw [h] <;> decide
def kforth (k f : Int) : Int := if k = 2 then 2 else if k = 3 then 0 else if k = 4 then 2 + f else 1
def kback (k f : Int) : Int := if k = 1 then 0 else if k = 2 then 2 else if k = 3 then 1 else if k = 4 then 2 else if k = 5 then (if f % 2 = 0 then 1 else 0) else 1
def nwt (σ : St) (b : Nat) (p l : Int) : Int := (if σ (b + 3) l = p then kforth (σ (b + 1) l) (σ (b + 2) l) else 0) + (if σ (b + 4) l = p then kback (σ (b + 1) l) (σ (b + 2) l) else 0)
def sumTo (f : Int → Int) : Nat → Int
  | 0 => 0
  | n + 1 => sumTo f n + f n
def nsum (σ : St) (b : Nat) (p : Int) : Int := sumTo (fun l => nwt σ b p l * σ (b + 5) l) (σ b 1).toNat
def isNet (b : Nat) : Prop := lay b = oNet (b + 1) (b + 2) (b + 3) (b + 4) (b + 5) ∧ lay (b + 1) = iE 8 ∧ lay (b + 2) = iE 8 ∧ lay (b + 3) = iE 8 ∧ lay (b + 4) = iE 8 ∧ lay (b + 5) = iE 8 ∧ b + 5 < 97
theorem isNet_1 : isNet 1 := ⟨rfl, rfl, rfl, rfl, rfl, rfl, by decide⟩
theorem isNet_7 : isNet 7 := ⟨rfl, rfl, rfl, rfl, rfl, rfl, by decide⟩
theorem isNet_13 : isNet 13 := ⟨rfl, rfl, rfl, rfl, rfl, rfl, by decide⟩
def RowOK (σ : St) (b : Nat) : Prop := ∀ i : Int, 0 ≤ i → i < 8 → 0 ≤ σ (b + 1) i ∧ σ (b + 1) i ≤ 5 ∧ 0 ≤ σ (b + 2) i ∧ σ (b + 2) i ≤ 9 ∧ 0 ≤ σ (b + 3) i ∧ σ (b + 3) i ≤ 6 ∧ 0 ≤ σ (b + 4) i ∧ σ (b + 4) i ≤ 6 ∧ 0 ≤ σ (b + 5) i ∧ σ (b + 5) i ≤ 99
def NetOK (σ : St) (b : Nat) : Prop := 1 ≤ σ b 0 ∧ σ b 0 ≤ 7 ∧ 0 ≤ σ b 1 ∧ σ b 1 ≤ 8 ∧ RowOK σ b ∧ ∀ i : Int, 0 ≤ i → i < σ b 1 → σ (b + 3) i < σ b 0 ∧ σ (b + 4) i < σ b 0
def fill (σ : St) (k : Nat) (n : Int) (f : Int → Int) : St := fun k' j => if k' = k ∧ 0 ≤ j ∧ j < n then f j else σ k' j
theorem kforth_R {k f : Int} (hf : 0 ≤ f ∧ f ≤ 9) : 0 ≤ kforth k f ∧ kforth k f ≤ 11 := by
  unfold kforth
  repeat' split
  all_goals omega
theorem kback_R {k f : Int} : 0 ≤ kback k f ∧ kback k f ≤ 2 := by
  unfold kback
  repeat' split
  all_goals omega
theorem nwt_R {σ : St} {b : Nat} {p l : Int} (h : 0 ≤ σ (b + 2) l ∧ σ (b + 2) l ≤ 9) : 0 ≤ nwt σ b p l ∧ nwt σ b p l ≤ 13 := by
  unfold nwt
  have h1 := kforth_R (k := σ (b + 1) l) h
  have h2 := kback_R (k := σ (b + 1) l) (f := σ (b + 2) l)
  repeat' split
  all_goals omega
theorem tm_em {x : Int} (y : Int) (h : 0 ≤ x) : x.tmod y = x % y := Int.tmod_eq_emod_of_nonneg h
set_option maxHeartbeats 4000000 in
theorem c_X9_isKind {V : Wd} {σ : St} {x : Int} (hx : inR x) : Ct V yX9_isKind cX9_isKind 1 (some .boolean) 0 0 [iv x] σ (PI (fun r τ => r = b01 (0 ≤ x ∧ x < 6) ∧ τ = σ)) := by
  refine ct_of (by decide) (Nat.le_of_ble_eq_true rfl) (fun X G T => ?_)
  have G : Gd X V cX9_isKind RX9 1 0 0 := G
  show AW X V σ 0 [] [some (iv x)]
  refine aw_iload_n G dX9_isKind_0 rfl ?_
  refine aw_if_lt (tgt := 14) G dX9_isKind_1 (by decide) (by omega) (fun c1 => ?_) (fun c1 => ?_)
  · refine aw_iconst G dX9_isKind_14 ?_
    exact aw_zret G T dX9_isKind_15 (by first | exact Or.inl rfl | exact Or.inr rfl | assumption) (⟨by first | exact (b01_t (by omega)).symm | exact (b01_f (by omega)).symm, rfl⟩)
  · refine aw_iload_n G dX9_isKind_4 rfl ?_
    refine aw_bipush G dX9_isKind_5 (k := ?_)
    refine aw_icmp_ge (tgt := 14) G dX9_isKind_7 (by decide) (by omega) (by omega) (fun c7 => ?_) (fun c7 => ?_)
    · refine aw_iconst G dX9_isKind_14 ?_
      exact aw_zret G T dX9_isKind_15 (by first | exact Or.inl rfl | exact Or.inr rfl | assumption) (⟨by first | exact (b01_t (by omega)).symm | exact (b01_f (by omega)).symm, rfl⟩)
    · refine aw_iconst G dX9_isKind_10 ?_
      refine aw_goto (tgt := 15) G dX9_isKind_11 (by decide) ?_
      exact aw_zret G T dX9_isKind_15 (by first | exact Or.inl rfl | exact Or.inr rfl | assumption) (⟨by first | exact (b01_t (by omega)).symm | exact (b01_f (by omega)).symm, rfl⟩)

set_option maxHeartbeats 4000000 in
theorem c_X9_isRule {V : Wd} {σ : St} {x : Int} (hx : inR x) : Ct V yX9_isRule cX9_isRule 1 (some .boolean) 0 0 [iv x] σ (PI (fun r τ => r = b01 (0 ≤ x ∧ x < 6) ∧ τ = σ)) := by
  refine ct_of (by decide) (Nat.le_of_ble_eq_true rfl) (fun X G T => ?_)
  have G : Gd X V cX9_isRule RX9 1 0 0 := G
  show AW X V σ 0 [] [some (iv x)]
  refine aw_iload_n G dX9_isRule_0 rfl ?_
  refine aw_if_lt (tgt := 14) G dX9_isRule_1 (by decide) (by omega) (fun c1 => ?_) (fun c1 => ?_)
  · refine aw_iconst G dX9_isRule_14 ?_
    exact aw_zret G T dX9_isRule_15 (by first | exact Or.inl rfl | exact Or.inr rfl | assumption) (⟨by first | exact (b01_t (by omega)).symm | exact (b01_f (by omega)).symm, rfl⟩)
  · refine aw_iload_n G dX9_isRule_4 rfl ?_
    refine aw_bipush G dX9_isRule_5 (k := ?_)
    refine aw_icmp_ge (tgt := 14) G dX9_isRule_7 (by decide) (by omega) (by omega) (fun c7 => ?_) (fun c7 => ?_)
    · refine aw_iconst G dX9_isRule_14 ?_
      exact aw_zret G T dX9_isRule_15 (by first | exact Or.inl rfl | exact Or.inr rfl | assumption) (⟨by first | exact (b01_t (by omega)).symm | exact (b01_f (by omega)).symm, rfl⟩)
    · refine aw_iconst G dX9_isRule_10 ?_
      refine aw_goto (tgt := 15) G dX9_isRule_11 (by decide) ?_
      exact aw_zret G T dX9_isRule_15 (by first | exact Or.inl rfl | exact Or.inr rfl | assumption) (⟨by first | exact (b01_t (by omega)).symm | exact (b01_f (by omega)).symm, rfl⟩)

set_option maxHeartbeats 4000000 in
theorem c_X9_isList {V : Wd} {σ : St} {x : Int} (hx : inR x) : Ct V yX9_isList cX9_isList 1 (some .boolean) 0 0 [iv x] σ (PI (fun r τ => r = b01 (0 ≤ x ∧ x < 3) ∧ τ = σ)) := by
  refine ct_of (by decide) (Nat.le_of_ble_eq_true rfl) (fun X G T => ?_)
  have G : Gd X V cX9_isList RX9 1 0 0 := G
  show AW X V σ 0 [] [some (iv x)]
  refine aw_iload_n G dX9_isList_0 rfl ?_
  refine aw_if_lt (tgt := 13) G dX9_isList_1 (by decide) (by omega) (fun c1 => ?_) (fun c1 => ?_)
  · refine aw_iconst G dX9_isList_13 ?_
    exact aw_zret G T dX9_isList_14 (by first | exact Or.inl rfl | exact Or.inr rfl | assumption) (⟨by first | exact (b01_t (by omega)).symm | exact (b01_f (by omega)).symm, rfl⟩)
  · refine aw_iload_n G dX9_isList_4 rfl ?_
    refine aw_iconst G dX9_isList_5 ?_
    refine aw_icmp_ge (tgt := 13) G dX9_isList_6 (by decide) (by omega) (by omega) (fun c6 => ?_) (fun c6 => ?_)
    · refine aw_iconst G dX9_isList_13 ?_
      exact aw_zret G T dX9_isList_14 (by first | exact Or.inl rfl | exact Or.inr rfl | assumption) (⟨by first | exact (b01_t (by omega)).symm | exact (b01_f (by omega)).symm, rfl⟩)
    · refine aw_iconst G dX9_isList_9 ?_
      refine aw_goto (tgt := 14) G dX9_isList_10 (by decide) ?_
      exact aw_zret G T dX9_isList_14 (by first | exact Or.inl rfl | exact Or.inr rfl | assumption) (⟨by first | exact (b01_t (by omega)).symm | exact (b01_f (by omega)).symm, rfl⟩)

set_option maxHeartbeats 4000000 in
theorem c_X0_forth {V : Wd} {σ : St} {k f : Int} (hk : 0 ≤ k ∧ k ≤ 5) (hf : 0 ≤ f ∧ f ≤ 9) : Ct V yX0_forth cX0_forth 2 (some .int) 0 0 [iv k, iv f] σ (PI (fun r τ => r = kforth k f ∧ τ = σ)) := by
  refine ct_of (by decide) (Nat.le_of_ble_eq_true rfl) (fun X G T => ?_)
  have G : Gd X V cX0_forth RX0 2 0 0 := G
  show AW X V σ 0 [] [some (iv k), some (iv f)]
  refine aw_iload_n G dX0_forth_0 rfl ?_
  by_cases s1_0 : k = 2
  · refine aw_tswIn (off := 27) (tgt := 28) G dX0_forth_1 (by omega) (by omega) (by omega) (by rw [s1_0]; rfl) (by decide) ?_
    refine aw_iconst G dX0_forth_28 ?_
    exact aw_iret G T dX0_forth_29 (⟨by unfold kforth; (repeat' split) <;> omega, rfl⟩)
  by_cases s1_1 : k = 3
  · refine aw_tswIn (off := 29) (tgt := 30) G dX0_forth_1 (by omega) (by omega) (by omega) (by rw [s1_1]; rfl) (by decide) ?_
    refine aw_iconst G dX0_forth_30 ?_
    exact aw_iret G T dX0_forth_31 (⟨by unfold kforth; (repeat' split) <;> omega, rfl⟩)
  by_cases s1_2 : k = 4
  · refine aw_tswIn (off := 31) (tgt := 32) G dX0_forth_1 (by omega) (by omega) (by omega) (by rw [s1_2]; rfl) (by decide) ?_
    refine aw_iconst G dX0_forth_32 ?_
    refine aw_iload_n G dX0_forth_33 rfl ?_
    refine aw_iadd G dX0_forth_34 ?_
    exact aw_iret G T dX0_forth_35 (⟨by unfold kforth; (repeat' split) <;> omega, rfl⟩)
  refine aw_tswOut (tgt := 36) G dX0_forth_1 (by omega) (by omega) (by decide) ?_
  refine aw_iconst G dX0_forth_36 ?_
  exact aw_iret G T dX0_forth_37 (⟨by unfold kforth; (repeat' split) <;> omega, rfl⟩)

set_option maxHeartbeats 4000000 in
theorem c_X0_back {V : Wd} {σ : St} {k f : Int} (hk : 0 ≤ k ∧ k ≤ 5) (hf : 0 ≤ f ∧ f ≤ 9) : Ct V yX0_back cX0_back 2 (some .int) 0 0 [iv k, iv f] σ (PI (fun r τ => r = kback k f ∧ τ = σ)) := by
  refine ct_of (by decide) (Nat.le_of_ble_eq_true rfl) (fun X G T => ?_)
  have G : Gd X V cX0_back RX0 2 0 0 := G
  show AW X V σ 0 [] [some (iv k), some (iv f)]
  refine aw_iload_n G dX0_back_0 rfl ?_
  by_cases s1_0 : k = 1
  · refine aw_tswIn (off := 35) (tgt := 36) G dX0_back_1 (by omega) (by omega) (by omega) (by rw [s1_0]; rfl) (by decide) ?_
    refine aw_iconst G dX0_back_36 ?_
    exact aw_iret G T dX0_back_37 (⟨by unfold kback; (repeat' split) <;> omega, rfl⟩)
  by_cases s1_1 : k = 2
  · refine aw_tswIn (off := 37) (tgt := 38) G dX0_back_1 (by omega) (by omega) (by omega) (by rw [s1_1]; rfl) (by decide) ?_
    refine aw_iconst G dX0_back_38 ?_
    exact aw_iret G T dX0_back_39 (⟨by unfold kback; (repeat' split) <;> omega, rfl⟩)
  by_cases s1_2 : k = 3
  · refine aw_tswIn (off := 51) (tgt := 52) G dX0_back_1 (by omega) (by omega) (by omega) (by rw [s1_2]; rfl) (by decide) ?_
    refine aw_iconst G dX0_back_52 ?_
    exact aw_iret G T dX0_back_53 (⟨by unfold kback; (repeat' split) <;> omega, rfl⟩)
  by_cases s1_3 : k = 4
  · refine aw_tswIn (off := 37) (tgt := 38) G dX0_back_1 (by omega) (by omega) (by omega) (by rw [s1_3]; rfl) (by decide) ?_
    refine aw_iconst G dX0_back_38 ?_
    exact aw_iret G T dX0_back_39 (⟨by unfold kback; (repeat' split) <;> omega, rfl⟩)
  by_cases s1_4 : k = 5
  · refine aw_tswIn (off := 39) (tgt := 40) G dX0_back_1 (by omega) (by omega) (by omega) (by rw [s1_4]; rfl) (by decide) ?_
    refine aw_iload_n G dX0_back_40 rfl ?_
    refine aw_iconst G dX0_back_41 ?_
    refine aw_irem G dX0_back_42 (by omega) (by omega) ?_
    refine aw_if_ne (tgt := 50) G dX0_back_43 (by decide) (by rw [tm_em _ hf.1]; omega) (fun c43 => ?_) (fun c43 => ?_)
    · rw [tm_em _ hf.1] at c43
      refine aw_iconst G dX0_back_50 ?_
      exact aw_iret G T dX0_back_51 (⟨by unfold kback; (repeat' split) <;> omega, rfl⟩)
    · rw [tm_em _ hf.1] at c43
      refine aw_iconst G dX0_back_46 ?_
      refine aw_goto (tgt := 51) G dX0_back_47 (by decide) ?_
      exact aw_iret G T dX0_back_51 (⟨by unfold kback; (repeat' split) <;> omega, rfl⟩)
  refine aw_tswOut (tgt := 52) G dX0_back_1 (by omega) (by omega) (by decide) ?_
  refine aw_iconst G dX0_back_52 ?_
  exact aw_iret G T dX0_back_53 (⟨by unfold kback; (repeat' split) <;> omega, rfl⟩)

set_option maxHeartbeats 4000000 in
theorem c_X3_hasPoint {V : Wd} {σ : St} {b : Nat} {p : Int} (hb : isNet b) (hp : inR p) (hn : inR (σ b 0)) : Ct V yX3_hasPoint cX3_hasPoint 2 (some .boolean) 0 0 [rv V b, iv p] σ (PI (fun r τ => r = b01 (0 ≤ p ∧ p < σ b 0) ∧ τ = σ)) := by
  refine ct_of (by decide) (Nat.le_of_ble_eq_true rfl) (fun X G T => ?_)
  have G : Gd X V cX3_hasPoint RX3 2 0 0 := G
  show AW X V σ 0 [] [some (rv V b), some (iv p)]
  obtain ⟨hE, h1, h2, h3, h4, h5, hN⟩ := hb
  have hk0 : b < NC := by show b < 97; omega
  have hk1 : b + 1 < NC := by show b + 1 < 97; omega
  have hk2 : b + 2 < NC := by show b + 2 < 97; omega
  have hk3 : b + 3 < NC := by show b + 3 < 97; omega
  have hk4 : b + 4 < NC := by show b + 4 < 97; omega
  have hk5 : b + 5 < NC := by show b + 5 < 97; omega
  refine aw_iload_n G dX3_hasPoint_0 rfl ?_
  refine aw_if_lt (tgt := 16) G dX3_hasPoint_1 (by decide) (by omega) (fun c1 => ?_) (fun c1 => ?_)
  · refine aw_iconst G dX3_hasPoint_16 ?_
    exact aw_zret G T dX3_hasPoint_17 (by first | exact Or.inl rfl | exact Or.inr rfl | assumption) (⟨by first | exact (b01_t (by omega)).symm | exact (b01_f (by omega)).symm, rfl⟩)
  · refine aw_iload_n G dX3_hasPoint_4 rfl ?_
    refine aw_aload_n G dX3_hasPoint_5 rfl ?_
    refine gf_X3_9 G dX3_hasPoint_6 (kk := ?_)
    refine aw_icmp_ge (tgt := 16) G dX3_hasPoint_9 (by decide) (by omega) (by omega) (fun c9 => ?_) (fun c9 => ?_)
    · refine aw_iconst G dX3_hasPoint_16 ?_
      exact aw_zret G T dX3_hasPoint_17 (by first | exact Or.inl rfl | exact Or.inr rfl | assumption) (⟨by first | exact (b01_t (by omega)).symm | exact (b01_f (by omega)).symm, rfl⟩)
    · refine aw_iconst G dX3_hasPoint_12 ?_
      refine aw_goto (tgt := 17) G dX3_hasPoint_13 (by decide) ?_
      exact aw_zret G T dX3_hasPoint_17 (by first | exact Or.inl rfl | exact Or.inr rfl | assumption) (⟨by first | exact (b01_t (by omega)).symm | exact (b01_f (by omega)).symm, rfl⟩)

set_option maxHeartbeats 4000000 in
theorem c_X3_hasLine {V : Wd} {σ : St} {b : Nat} {p : Int} (hb : isNet b) (hp : inR p) (hn : inR (σ b 1)) : Ct V yX3_hasLine cX3_hasLine 2 (some .boolean) 0 0 [rv V b, iv p] σ (PI (fun r τ => r = b01 (0 ≤ p ∧ p < σ b 1) ∧ τ = σ)) := by
  refine ct_of (by decide) (Nat.le_of_ble_eq_true rfl) (fun X G T => ?_)
  have G : Gd X V cX3_hasLine RX3 2 0 0 := G
  show AW X V σ 0 [] [some (rv V b), some (iv p)]
  obtain ⟨hE, h1, h2, h3, h4, h5, hN⟩ := hb
  have hk0 : b < NC := by show b < 97; omega
  have hk1 : b + 1 < NC := by show b + 1 < 97; omega
  have hk2 : b + 2 < NC := by show b + 2 < 97; omega
  have hk3 : b + 3 < NC := by show b + 3 < 97; omega
  have hk4 : b + 4 < NC := by show b + 4 < 97; omega
  have hk5 : b + 5 < NC := by show b + 5 < 97; omega
  refine aw_iload_n G dX3_hasLine_0 rfl ?_
  refine aw_if_lt (tgt := 16) G dX3_hasLine_1 (by decide) (by omega) (fun c1 => ?_) (fun c1 => ?_)
  · refine aw_iconst G dX3_hasLine_16 ?_
    exact aw_zret G T dX3_hasLine_17 (by first | exact Or.inl rfl | exact Or.inr rfl | assumption) (⟨by first | exact (b01_t (by omega)).symm | exact (b01_f (by omega)).symm, rfl⟩)
  · refine aw_iload_n G dX3_hasLine_4 rfl ?_
    refine aw_aload_n G dX3_hasLine_5 rfl ?_
    refine gf_X3_15 G dX3_hasLine_6 (kk := ?_)
    refine aw_icmp_ge (tgt := 16) G dX3_hasLine_9 (by decide) (by omega) (by omega) (fun c9 => ?_) (fun c9 => ?_)
    · refine aw_iconst G dX3_hasLine_16 ?_
      exact aw_zret G T dX3_hasLine_17 (by first | exact Or.inl rfl | exact Or.inr rfl | assumption) (⟨by first | exact (b01_t (by omega)).symm | exact (b01_f (by omega)).symm, rfl⟩)
    · refine aw_iconst G dX3_hasLine_12 ?_
      refine aw_goto (tgt := 17) G dX3_hasLine_13 (by decide) ?_
      exact aw_zret G T dX3_hasLine_17 (by first | exact Or.inl rfl | exact Or.inr rfl | assumption) (⟨by first | exact (b01_t (by omega)).symm | exact (b01_f (by omega)).symm, rfl⟩)

set_option maxHeartbeats 4000000 in
theorem c_X3_restart {V : Wd} {σ : St} {b : Nat} {p : Int} (hb : isNet b) : Ct V yX3_restart cX3_restart 2 none 0 0 [rv V b, iv p] σ (PV (fun τ => τ = up (up σ b 0 p) b 1 0)) := by
  refine ct_of (by decide) (Nat.le_of_ble_eq_true rfl) (fun X G T => ?_)
  have G : Gd X V cX3_restart RX3 2 0 0 := G
  show AW X V σ 0 [] [some (rv V b), some (iv p)]
  obtain ⟨hE, h1, h2, h3, h4, h5, hN⟩ := hb
  have hk0 : b < NC := by show b < 97; omega
  have hk1 : b + 1 < NC := by show b + 1 < 97; omega
  have hk2 : b + 2 < NC := by show b + 2 < 97; omega
  have hk3 : b + 3 < NC := by show b + 3 < 97; omega
  have hk4 : b + 4 < NC := by show b + 4 < 97; omega
  have hk5 : b + 5 < NC := by show b + 5 < 97; omega
  refine aw_aload_n G dX3_restart_0 rfl ?_
  refine aw_iload_n G dX3_restart_1 rfl ?_
  refine pf_X3_9 G dX3_restart_2 (kk := ?_)
  refine aw_aload_n G dX3_restart_5 rfl ?_
  refine aw_iconst G dX3_restart_6 ?_
  refine pf_X3_15 G dX3_restart_7 (kk := ?_)
  exact aw_vret G T dX3_restart_10 (rfl)

def addLine (σ : St) (b : Nat) (k p q : Int) : St := up (up (up (up (up (up σ (b + 1) (σ b 1) k) (b + 2) (σ b 1) 0) (b + 3) (σ b 1) p) (b + 4) (σ b 1) q) (b + 5) (σ b 1) 0) b 1 (σ b 1 + 1)
theorem up_o {σ : St} {k k' : Nat} {j j' x : Int} (h : k' ≠ k) : up σ k j x k' j' = σ k' j' := by simp [up, h]
set_option maxHeartbeats 4000000 in
theorem c_X3_add {V : Wd} {σ : St} {b : Nat} {k p q : Int} (hb : isNet b) (hn : 0 ≤ σ b 1 ∧ σ b 1 < 8) : Ct V yX3_add cX3_add 4 none 0 0 [rv V b, iv k, iv p, iv q] σ (PV (fun τ => τ = addLine σ b k p q)) := by
  refine ct_of (by decide) (Nat.le_of_ble_eq_true rfl) (fun X G T => ?_)
  have G : Gd X V cX3_add RX3 4 0 0 := G
  show AW X V σ 0 [] [some (rv V b), some (iv k), some (iv p), some (iv q)]
  obtain ⟨hE, h1, h2, h3, h4, h5, hN⟩ := hb
  have hk0 : b < NC := by show b < 97; omega
  have hk1 : b + 1 < NC := by show b + 1 < 97; omega
  have hk2 : b + 2 < NC := by show b + 2 < 97; omega
  have hk3 : b + 3 < NC := by show b + 3 < 97; omega
  have hk4 : b + 4 < NC := by show b + 4 < 97; omega
  have hk5 : b + 5 < NC := by show b + 5 < 97; omega
  refine aw_aload_n G dX3_add_0 rfl ?_
  refine gf_X3_18 G dX3_add_1 (kk := ?_)
  refine aw_aload_n G dX3_add_4 rfl ?_
  refine gf_X3_15 G dX3_add_5 (kk := ?_)
  refine aw_iload_n G dX3_add_8 rfl ?_
  refine aw_iastore G dX3_add_9 (by first | decide | assumption | omega) (by first | rfl | assumption) (by first | decide | assumption) (by (repeat rw [up_o (by omega)]); omega) ?_
  refine aw_aload_n G dX3_add_10 rfl ?_
  refine gf_X3_22 G dX3_add_11 (kk := ?_)
  refine aw_aload_n G dX3_add_14 rfl ?_
  refine gf_X3_15 G dX3_add_15 (kk := ?_)
  refine aw_iconst G dX3_add_18 ?_
  refine aw_iastore G dX3_add_19 (by first | decide | assumption | omega) (by first | rfl | assumption) (by first | decide | assumption) (by (repeat rw [up_o (by omega)]); omega) ?_
  refine aw_aload_n G dX3_add_20 rfl ?_
  refine gf_X3_25 G dX3_add_21 (kk := ?_)
  refine aw_aload_n G dX3_add_24 rfl ?_
  refine gf_X3_15 G dX3_add_25 (kk := ?_)
  refine aw_iload_n G dX3_add_28 rfl ?_
  refine aw_iastore G dX3_add_29 (by first | decide | assumption | omega) (by first | rfl | assumption) (by first | decide | assumption) (by (repeat rw [up_o (by omega)]); omega) ?_
  refine aw_aload_n G dX3_add_30 rfl ?_
  refine gf_X3_28 G dX3_add_31 (kk := ?_)
  refine aw_aload_n G dX3_add_34 rfl ?_
  refine gf_X3_15 G dX3_add_35 (kk := ?_)
  refine aw_iload_n G dX3_add_38 rfl ?_
  refine aw_iastore G dX3_add_39 (by first | decide | assumption | omega) (by first | rfl | assumption) (by first | decide | assumption) (by (repeat rw [up_o (by omega)]); omega) ?_
  refine aw_aload_n G dX3_add_40 rfl ?_
  refine gf_X3_31 G dX3_add_41 (kk := ?_)
  refine aw_aload_n G dX3_add_44 rfl ?_
  refine gf_X3_15 G dX3_add_45 (kk := ?_)
  refine aw_iconst G dX3_add_48 ?_
  refine aw_iastore G dX3_add_49 (by first | decide | assumption | omega) (by first | rfl | assumption) (by first | decide | assumption) (by (repeat rw [up_o (by omega)]); omega) ?_
  refine aw_aload_n G dX3_add_50 rfl ?_
  refine aw_dup G dX3_add_51 (k := ?_)
  refine gf_X3_15 G dX3_add_52 (kk := ?_)
  refine aw_iconst G dX3_add_55 ?_
  refine aw_iadd G dX3_add_56 ?_
  refine pf_X3_15 G dX3_add_57 (kk := ?_)
  exact aw_vret G T dX3_add_60 (by unfold addLine; congr 1 <;> simp [up])

set_option maxHeartbeats 4000000 in
theorem c_X3_forth {V : Wd} {σ : St} {l : Int} (hl : 0 ≤ l ∧ l < 8) (hR : RowOK σ 1) : Ct V yX3_forth cX3_forth 2 (some .int) 1 21 [rv V 1, iv l] σ (PI (fun r τ => r = kforth (σ 2 l) (σ 3 l) ∧ τ = σ)) := by
  refine ct_of (by decide) (Nat.le_of_ble_eq_true rfl) (fun X G T => ?_)
  have G : Gd X V cX3_forth RX3 2 1 21 := G
  show AW X V σ 0 [] [some (rv V 1), some (iv l)]
  have hr := hR l (by omega) (by omega)
  simp only [Nat.reduceAdd] at hr
  refine aw_aload_n G dX3_forth_0 rfl ?_
  refine gf_X3_18 G dX3_forth_1 (kk := ?_)
  refine aw_iload_n G dX3_forth_4 rfl ?_
  refine aw_iaload G dX3_forth_5 (by first | decide | assumption | omega) (by first | rfl | assumption) (by first | decide | assumption) (by omega) ?_
  refine aw_aload_n G dX3_forth_6 rfl ?_
  refine gf_X3_22 G dX3_forth_7 (kk := ?_)
  refine aw_iload_n G dX3_forth_10 rfl ?_
  refine aw_iaload G dX3_forth_11 (by first | decide | assumption | omega) (by first | rfl | assumption) (by first | decide | assumption) (by omega) ?_
  refine cs_X3_40 G dX3_forth_12 (c_X0_forth (by omega) (by omega)) (kk := fun r12 t12 h12 => ?_)
  obtain ⟨rfl, rfl⟩ := h12
  exact aw_iret G T dX3_forth_15 (⟨rfl, rfl⟩)

set_option maxHeartbeats 4000000 in
theorem c_X3_back {V : Wd} {σ : St} {l : Int} (hl : 0 ≤ l ∧ l < 8) (hR : RowOK σ 1) : Ct V yX3_back cX3_back 2 (some .int) 1 21 [rv V 1, iv l] σ (PI (fun r τ => r = kback (σ 2 l) (σ 3 l) ∧ τ = σ)) := by
  refine ct_of (by decide) (Nat.le_of_ble_eq_true rfl) (fun X G T => ?_)
  have G : Gd X V cX3_back RX3 2 1 21 := G
  show AW X V σ 0 [] [some (rv V 1), some (iv l)]
  have hr := hR l (by omega) (by omega)
  simp only [Nat.reduceAdd] at hr
  refine aw_aload_n G dX3_back_0 rfl ?_
  refine gf_X3_18 G dX3_back_1 (kk := ?_)
  refine aw_iload_n G dX3_back_4 rfl ?_
  refine aw_iaload G dX3_back_5 (by first | decide | assumption | omega) (by first | rfl | assumption) (by first | decide | assumption) (by omega) ?_
  refine aw_aload_n G dX3_back_6 rfl ?_
  refine gf_X3_22 G dX3_back_7 (kk := ?_)
  refine aw_iload_n G dX3_back_10 rfl ?_
  refine aw_iaload G dX3_back_11 (by first | decide | assumption | omega) (by first | rfl | assumption) (by first | decide | assumption) (by omega) ?_
  refine cs_X3_46 G dX3_back_12 (c_X0_back (by omega) (by omega)) (kk := fun r12 t12 h12 => ?_)
  obtain ⟨rfl, rfl⟩ := h12
  exact aw_iret G T dX3_back_15 (⟨rfl, rfl⟩)

set_option maxHeartbeats 4000000 in
theorem c_X3_weight {V : Wd} {σ : St} {p l : Int} (hp : inR p) (hl : 0 ≤ l ∧ l < 8) (hR : RowOK σ 1) : Ct V yX3_weight cX3_weight 5 (some .int) 2 42 [rv V 1, iv p, iv l] σ (PI (fun r τ => r = nwt σ 1 p l ∧ τ = σ)) := by
  refine ct_of (by decide) (Nat.le_of_ble_eq_true rfl) (fun X G T => ?_)
  have G : Gd X V cX3_weight RX3 5 2 42 := G
  show AW X V σ 0 [] [some (rv V 1), some (iv p), some (iv l), none, none]
  have hr := hR l (by omega) (by omega)
  simp only [Nat.reduceAdd] at hr
  refine aw_aload_n G dX3_weight_0 rfl ?_
  refine gf_X3_25 G dX3_weight_1 (kk := ?_)
  refine aw_iload_n G dX3_weight_4 rfl ?_
  refine aw_iaload G dX3_weight_5 (by first | decide | assumption | omega) (by first | rfl | assumption) (by first | decide | assumption) (by omega) ?_
  refine aw_iload_n G dX3_weight_6 rfl ?_
  refine aw_icmp_ne (tgt := 18) G dX3_weight_7 (by decide) (by omega) (by omega) (fun c7 => ?_) (fun c7 => ?_)
  · refine aw_iconst G dX3_weight_18 ?_
    refine aw_istore_3 G dX3_weight_19 (k := ?_)
    refine aw_aload_n G dX3_weight_20 rfl ?_
    refine gf_X3_28 G dX3_weight_21 (kk := ?_)
    refine aw_iload_n G dX3_weight_24 rfl ?_
    refine aw_iaload G dX3_weight_25 (by first | decide | assumption | omega) (by first | rfl | assumption) (by first | decide | assumption) (by omega) ?_
    refine aw_iload_n G dX3_weight_26 rfl ?_
    refine aw_icmp_ne (tgt := 38) G dX3_weight_27 (by decide) (by omega) (by omega) (fun c27 => ?_) (fun c27 => ?_)
    · refine aw_iconst G dX3_weight_38 ?_
      refine aw_istore_4 G dX3_weight_39 (k := ?_)
      refine aw_iload_n G dX3_weight_41 rfl ?_
      refine aw_iload G dX3_weight_42 rfl ?_
      refine aw_iadd G dX3_weight_44 ?_
      exact aw_iret G T dX3_weight_45 (⟨by simp [nwt, c7, c27], rfl⟩)
    · refine aw_aload_n G dX3_weight_30 rfl ?_
      refine aw_iload_n G dX3_weight_31 rfl ?_
      refine cv_X3_52 G dX3_weight_32 (c_X3_back (by omega) (by assumption)) (kk := fun r32 t32 h32 => ?_)
      obtain ⟨rfl, rfl⟩ := h32
      refine aw_goto (tgt := 39) G dX3_weight_35 (by decide) ?_
      refine aw_istore_4 G dX3_weight_39 (k := ?_)
      refine aw_iload_n G dX3_weight_41 rfl ?_
      refine aw_iload G dX3_weight_42 rfl ?_
      refine aw_iadd G dX3_weight_44 ?_
      exact aw_iret G T dX3_weight_45 (⟨by simp [nwt, c7, c27], rfl⟩)
  · refine aw_aload_n G dX3_weight_10 rfl ?_
    refine aw_iload_n G dX3_weight_11 rfl ?_
    refine cv_X3_49 G dX3_weight_12 (c_X3_forth (by omega) (by assumption)) (kk := fun r12 t12 h12 => ?_)
    obtain ⟨rfl, rfl⟩ := h12
    refine aw_goto (tgt := 19) G dX3_weight_15 (by decide) ?_
    refine aw_istore_3 G dX3_weight_19 (k := ?_)
    refine aw_aload_n G dX3_weight_20 rfl ?_
    refine gf_X3_28 G dX3_weight_21 (kk := ?_)
    refine aw_iload_n G dX3_weight_24 rfl ?_
    refine aw_iaload G dX3_weight_25 (by first | decide | assumption | omega) (by first | rfl | assumption) (by first | decide | assumption) (by omega) ?_
    refine aw_iload_n G dX3_weight_26 rfl ?_
    refine aw_icmp_ne (tgt := 38) G dX3_weight_27 (by decide) (by omega) (by omega) (fun c27 => ?_) (fun c27 => ?_)
    · refine aw_iconst G dX3_weight_38 ?_
      refine aw_istore_4 G dX3_weight_39 (k := ?_)
      refine aw_iload_n G dX3_weight_41 rfl ?_
      refine aw_iload G dX3_weight_42 rfl ?_
      refine aw_iadd G dX3_weight_44 ?_
      exact aw_iret G T dX3_weight_45 (⟨by simp [nwt, c7, c27], rfl⟩)
    · refine aw_aload_n G dX3_weight_30 rfl ?_
      refine aw_iload_n G dX3_weight_31 rfl ?_
      refine cv_X3_52 G dX3_weight_32 (c_X3_back (by omega) (by assumption)) (kk := fun r32 t32 h32 => ?_)
      obtain ⟨rfl, rfl⟩ := h32
      refine aw_goto (tgt := 39) G dX3_weight_35 (by decide) ?_
      refine aw_istore_4 G dX3_weight_39 (k := ?_)
      refine aw_iload_n G dX3_weight_41 rfl ?_
      refine aw_iload G dX3_weight_42 rfl ?_
      refine aw_iadd G dX3_weight_44 ?_
      exact aw_iret G T dX3_weight_45 (⟨by simp [nwt, c7, c27], rfl⟩)

set_option maxHeartbeats 4000000 in
theorem c_X3_sumAt {V : Wd} {σ : St} {p : Int} (hp : inR p) (hL : 0 ≤ σ 1 1 ∧ σ 1 1 ≤ 8) (hR : RowOK σ 1) : Ct V yX3_sumAt cX3_sumAt 4 (some .int) 3 66 [rv V 1, iv p] σ (PI (fun r τ => r = nsum σ 1 p ∧ τ = σ)) := by
  refine ct_of (by decide) (Nat.le_of_ble_eq_true rfl) (fun X G T => ?_)
  have G : Gd X V cX3_sumAt RX3 4 3 66 := G
  show AW X V σ 0 [] [some (rv V 1), some (iv p), none, none]
  have loop : ∀ (n : Nat) (l : Int), 0 ≤ l → l + n = σ 1 1 → AW X V σ 4 [] [some (rv V 1), some (iv p), some (iv (sumTo (fun l => nwt σ 1 p l * σ 6 l) l.toNat)), some (iv l)] := by
    intro n
    induction n with
    | zero =>
      intro l h0 h1
      refine aw_iload_n G dX3_sumAt_4 rfl ?_
      refine aw_aload_n G dX3_sumAt_5 rfl ?_
      refine gf_X3_15 G dX3_sumAt_6 (kk := ?_)
      refine aw_icmp_ge (tgt := 34) G dX3_sumAt_9 (by decide) (by omega) (by omega) (fun c9 => ?_) (fun c9 => ?_)
      · refine aw_iload_n G dX3_sumAt_34 rfl ?_
        exact aw_iret G T dX3_sumAt_35 (⟨by unfold nsum; rw [show l = σ 1 1 by omega], rfl⟩)
      · exact absurd c9 (by omega)
    | succ n ih =>
      intro l h0 h1
      refine aw_iload_n G dX3_sumAt_4 rfl ?_
      refine aw_aload_n G dX3_sumAt_5 rfl ?_
      refine gf_X3_15 G dX3_sumAt_6 (kk := ?_)
      refine aw_icmp_ge (tgt := 34) G dX3_sumAt_9 (by decide) (by omega) (by omega) (fun c9 => ?_) (fun c9 => ?_)
      · exact absurd c9 (by omega)
      · refine aw_iload_n G dX3_sumAt_12 rfl ?_
        refine aw_aload_n G dX3_sumAt_13 rfl ?_
        refine aw_iload_n G dX3_sumAt_14 rfl ?_
        refine aw_iload_n G dX3_sumAt_15 rfl ?_
        refine cv_X3_54 G dX3_sumAt_16 (c_X3_weight (by first | assumption | omega) (by omega) (by assumption)) (kk := fun r16 t16 h16 => ?_)
        obtain ⟨rfl, rfl⟩ := h16
        refine aw_aload_n G dX3_sumAt_19 rfl ?_
        refine gf_X3_31 G dX3_sumAt_20 (kk := ?_)
        refine aw_iload_n G dX3_sumAt_23 rfl ?_
        refine aw_iaload G dX3_sumAt_24 (by first | decide | assumption | omega) (by first | rfl | assumption) (by first | decide | assumption) (by omega) ?_
        refine aw_imul G dX3_sumAt_25 ?_
        refine aw_iadd G dX3_sumAt_26 ?_
        refine aw_istore_2 G dX3_sumAt_27 (k := ?_)
        refine aw_iinc_3 G dX3_sumAt_28 rfl (k := ?_)
        refine aw_goto (tgt := 4) G dX3_sumAt_31 (by decide) ?_
        have e1 : (l + 1).toNat = l.toNat + 1 := by omega
        have e2 : ((l.toNat : Nat) : Int) = l := by omega
        have := ih (l + 1) (by omega) (by omega)
        rw [e1] at this
        unfold sumTo at this
        rw [e2] at this
        exact this
  refine aw_iconst G dX3_sumAt_0 ?_
  refine aw_istore_2 G dX3_sumAt_1 (k := ?_)
  refine aw_iconst G dX3_sumAt_2 ?_
  refine aw_istore_3 G dX3_sumAt_3 (k := ?_)
  exact loop (σ 1 1).toNat 0 (by omega) (by omega)
