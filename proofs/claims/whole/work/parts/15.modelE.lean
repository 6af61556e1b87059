set_option maxHeartbeats 4000000 in
theorem c_X10_keeps {V : Wd} {σ : St} {c : Nat} (hc : c = 95 ∨ c = 96) : Ct V yX10_keeps cX10_keeps 3 none 0 0 [rv V 75, rv V c] σ (PV (fun τ => τ = keepR σ c)) := by
  refine ct_of (by decide) (Nat.le_of_ble_eq_true rfl) (fun X G T => ?_)
  have G : Gd X V cX10_keeps RX10 3 0 0 := G
  show AW X V σ 0 [] [some (rv V 75), some (rv V c), none]
  have hk : c < NC := by show c < 97; omega
  have hE : lay c = iE 42 := by rcases hc with rfl | rfl <;> rfl
  have loop : ∀ (n0 : Nat) (i : Int) (τ : St), (0 ≤ i ∧ i ≤ 8) → (8 < i + (n0 : Int)) → (Only [c] σ τ) → (∀ j, 0 ≤ j → j < i → τ c (0 + j) = σ 76 j ∧ τ c (8 + j) = σ 77 j ∧ τ c (16 + j) = σ 78 j ∧ τ c (24 + j) = σ 79 j ∧ τ c (32 + j) = σ 80 j) → (∀ j, j < 0 ∨ 40 ≤ j → τ c j = σ c j) → AW X V (τ) 2 [] [some (rv V 75), some (rv V c), some (iv i)] := by
    intro n0
    induction n0 with
    | zero =>
      intro i τ h0 h1 go gq gx
      exfalso
      omega
    | succ n0 ih =>
      intro i τ h0 h1 go gq gx
      refine aw_iload_n G dX10_keeps_2 rfl ?_
      refine aw_bipush G dX10_keeps_3 (k := ?_)
      refine aw_icmp_ge (tgt := 71) G dX10_keeps_5 (by decide) (by first | omega | exact b01_R _ | exact bP_R _) (by first | omega | exact b01_R _ | exact bP_R _) (fun c5 => ?_) (fun c5 => ?_)
      · refine aw_aload_n G dX10_keeps_71 rfl ?_
        refine aw_bipush G dX10_keeps_72 (k := ?_)
        refine aw_aload_n G dX10_keeps_74 rfl ?_
        refine gf_X10_7 G dX10_keeps_75 (kk := ?_)
        rw [go 75 (by simp; omega)]
        refine aw_iastore G dX10_keeps_78 (by first | decide | assumption | omega) (by first | rfl | assumption) (by first | decide | assumption) (by omega) ?_
        refine aw_aload_n G dX10_keeps_79 rfl ?_
        refine aw_bipush G dX10_keeps_80 (k := ?_)
        refine aw_aload_n G dX10_keeps_82 rfl ?_
        refine gf_X10_82 G dX10_keeps_83 (kk := ?_)
        rw [up_o (show (75:Nat) ≠ c by omega), go 75 (by simp; omega)]
        refine aw_iastore G dX10_keeps_86 (by first | decide | assumption | omega) (by first | rfl | assumption) (by first | decide | assumption) (by omega) ?_
        exact aw_vret G T dX10_keeps_87 (by
          have e8 : i = 8 := by omega
          subst e8
          funext k j
          unfold keepR
          by_cases e : k = c
          · subst e
            rw [if_pos rfl]
            by_cases r1 : 0 ≤ j ∧ j < 8
            · rw [if_pos r1, up_nj (by omega), up_nj (by omega)]
              have hz := (gq j r1.1 r1.2).1
              rw [show (0:Int) + j = j by omega] at hz
              exact hz
            rw [if_neg r1]
            by_cases r2 : 8 ≤ j ∧ j < 16
            · rw [if_pos r2, up_nj (by omega), up_nj (by omega)]
              have hz := gq (j - 8) (by omega) (by omega)
              have hy := hz.2.1
              rw [show (8:Int) + (j - 8) = j by omega] at hy
              exact hy
            rw [if_neg r2]
            by_cases r3 : 16 ≤ j ∧ j < 24
            · rw [if_pos r3, up_nj (by omega), up_nj (by omega)]
              have hz := gq (j - 16) (by omega) (by omega)
              have hy := hz.2.2.1
              rw [show (16:Int) + (j - 16) = j by omega] at hy
              exact hy
            rw [if_neg r3]
            by_cases r4 : 24 ≤ j ∧ j < 32
            · rw [if_pos r4, up_nj (by omega), up_nj (by omega)]
              have hz := gq (j - 24) (by omega) (by omega)
              have hy := hz.2.2.2.1
              rw [show (24:Int) + (j - 24) = j by omega] at hy
              exact hy
            rw [if_neg r4]
            by_cases r5 : 32 ≤ j ∧ j < 40
            · rw [if_pos r5, up_nj (by omega), up_nj (by omega)]
              have hz := gq (j - 32) (by omega) (by omega)
              have hy := hz.2.2.2.2
              rw [show (32:Int) + (j - 32) = j by omega] at hy
              exact hy
            rw [if_neg r5]
            by_cases r6 : j = 40
            · rw [if_pos r6, r6, up_nj (by omega), up_at]
            rw [if_neg r6]
            by_cases r7 : j = 41
            · rw [if_pos r7, r7, up_at]
            rw [if_neg r7, up_nj r7, up_nj r6]
            exact gx j (by omega)
          · rw [if_neg e, up_o e, up_o e, go k (by simpa using e)])
      · refine aw_aload_n G dX10_keeps_8 rfl ?_
        refine aw_iload_n G dX10_keeps_9 rfl ?_
        refine aw_aload_n G dX10_keeps_10 rfl ?_
        refine gf_X10_13 G dX10_keeps_11 (kk := ?_)
        refine aw_iload_n G dX10_keeps_14 rfl ?_
        refine aw_iaload G dX10_keeps_15 (by first | decide | assumption | omega) (by first | rfl | assumption) (by first | decide | assumption) (by omega) ?_
        rw [go 76 (by simp; omega)]
        refine aw_iastore G dX10_keeps_16 (by first | decide | assumption | omega) (by first | rfl | assumption) (by first | decide | assumption) (by omega) ?_
        refine aw_aload_n G dX10_keeps_17 rfl ?_
        refine aw_bipush G dX10_keeps_18 (k := ?_)
        refine aw_iload_n G dX10_keeps_20 rfl ?_
        refine aw_iadd G dX10_keeps_21 ?_
        refine aw_aload_n G dX10_keeps_22 rfl ?_
        refine gf_X10_17 G dX10_keeps_23 (kk := ?_)
        refine aw_iload_n G dX10_keeps_26 rfl ?_
        refine aw_iaload G dX10_keeps_27 (by first | decide | assumption | omega) (by first | rfl | assumption) (by first | decide | assumption) (by omega) ?_
        rw [up_o (show (77:Nat) ≠ c by omega), go 77 (by simp; omega)]
        refine aw_iastore G dX10_keeps_28 (by first | decide | assumption | omega) (by first | rfl | assumption) (by first | decide | assumption) (by omega) ?_
        refine aw_aload_n G dX10_keeps_29 rfl ?_
        refine aw_bipush G dX10_keeps_30 (k := ?_)
        refine aw_iload_n G dX10_keeps_32 rfl ?_
        refine aw_iadd G dX10_keeps_33 ?_
        refine aw_aload_n G dX10_keeps_34 rfl ?_
        refine gf_X10_20 G dX10_keeps_35 (kk := ?_)
        refine aw_iload_n G dX10_keeps_38 rfl ?_
        refine aw_iaload G dX10_keeps_39 (by first | decide | assumption | omega) (by first | rfl | assumption) (by first | decide | assumption) (by omega) ?_
        rw [up_o (show (78:Nat) ≠ c by omega), up_o (show (78:Nat) ≠ c by omega), go 78 (by simp; omega)]
        refine aw_iastore G dX10_keeps_40 (by first | decide | assumption | omega) (by first | rfl | assumption) (by first | decide | assumption) (by omega) ?_
        refine aw_aload_n G dX10_keeps_41 rfl ?_
        refine aw_bipush G dX10_keeps_42 (k := ?_)
        refine aw_iload_n G dX10_keeps_44 rfl ?_
        refine aw_iadd G dX10_keeps_45 ?_
        refine aw_aload_n G dX10_keeps_46 rfl ?_
        refine gf_X10_23 G dX10_keeps_47 (kk := ?_)
        refine aw_iload_n G dX10_keeps_50 rfl ?_
        refine aw_iaload G dX10_keeps_51 (by first | decide | assumption | omega) (by first | rfl | assumption) (by first | decide | assumption) (by omega) ?_
        rw [up_o (show (79:Nat) ≠ c by omega), up_o (show (79:Nat) ≠ c by omega), up_o (show (79:Nat) ≠ c by omega), go 79 (by simp; omega)]
        refine aw_iastore G dX10_keeps_52 (by first | decide | assumption | omega) (by first | rfl | assumption) (by first | decide | assumption) (by omega) ?_
        refine aw_aload_n G dX10_keeps_53 rfl ?_
        refine aw_bipush G dX10_keeps_54 (k := ?_)
        refine aw_iload_n G dX10_keeps_56 rfl ?_
        refine aw_iadd G dX10_keeps_57 ?_
        refine aw_aload_n G dX10_keeps_58 rfl ?_
        refine gf_X10_26 G dX10_keeps_59 (kk := ?_)
        refine aw_iload_n G dX10_keeps_62 rfl ?_
        refine aw_iaload G dX10_keeps_63 (by first | decide | assumption | omega) (by first | rfl | assumption) (by first | decide | assumption) (by omega) ?_
        rw [up_o (show (80:Nat) ≠ c by omega), up_o (show (80:Nat) ≠ c by omega), up_o (show (80:Nat) ≠ c by omega), up_o (show (80:Nat) ≠ c by omega), go 80 (by simp; omega)]
        refine aw_iastore G dX10_keeps_64 (by first | decide | assumption | omega) (by first | rfl | assumption) (by first | decide | assumption) (by omega) ?_
        refine aw_iinc_2 G dX10_keeps_65 rfl (hc := by first | rfl | assumption) (k := ?_)
        refine aw_goto (tgt := 2) G dX10_keeps_68 (by decide) ?_
        refine ih (i + 1) _ (by omega) (by omega) (((((go.up (List.mem_singleton.mpr rfl)).up (List.mem_singleton.mpr rfl)).up (List.mem_singleton.mpr rfl)).up (List.mem_singleton.mpr rfl)).up (List.mem_singleton.mpr rfl)) (fun j a b => ?_) (fun j a => ?_)
        · by_cases e : j = i
          · subst e
            refine ⟨?_, ?_, ?_, ?_, ?_⟩
            · rw [up_nj (by omega), up_nj (by omega), up_nj (by omega), up_nj (by omega), show (0:Int) + j = j by omega, up_at]
            · rw [up_nj (by omega), up_nj (by omega), up_nj (by omega), up_at]
            · rw [up_nj (by omega), up_nj (by omega), up_at]
            · rw [up_nj (by omega), up_at]
            · rw [up_at]
          · have hz := gq j a (by omega)
            refine ⟨?_, ?_, ?_, ?_, ?_⟩
            · rw [up_nj (by omega), up_nj (by omega), up_nj (by omega), up_nj (by omega), up_nj (by omega)]
              exact hz.1
            · rw [up_nj (by omega), up_nj (by omega), up_nj (by omega), up_nj (by omega), up_nj (by omega)]
              exact hz.2.1
            · rw [up_nj (by omega), up_nj (by omega), up_nj (by omega), up_nj (by omega), up_nj (by omega)]
              exact hz.2.2.1
            · rw [up_nj (by omega), up_nj (by omega), up_nj (by omega), up_nj (by omega), up_nj (by omega)]
              exact hz.2.2.2.1
            · rw [up_nj (by omega), up_nj (by omega), up_nj (by omega), up_nj (by omega), up_nj (by omega)]
              exact hz.2.2.2.2
        · rw [up_nj (by omega), up_nj (by omega), up_nj (by omega), up_nj (by omega), up_nj (by omega)]
          exact gx j a
  refine aw_iconst G dX10_keeps_0 ?_
  refine aw_istore_2 G dX10_keeps_1 (hc := by first | rfl | assumption) (k := ?_)
  exact loop 9 0 σ (by omega) (by omega) Only.rf (fun j a b => by omega) (fun j a => rfl)
set_option maxHeartbeats 4000000 in
theorem c_X10_laysBack {V : Wd} {σ : St} {c : Nat} (hc : c = 95 ∨ c = 96) : Ct V yX10_laysBack cX10_laysBack 3 none 0 0 [rv V 75, rv V c] σ (PV (fun τ => τ = backR σ c)) := by
  refine ct_of (by decide) (Nat.le_of_ble_eq_true rfl) (fun X G T => ?_)
  have G : Gd X V cX10_laysBack RX10 3 0 0 := G
  show AW X V σ 0 [] [some (rv V 75), some (rv V c), none]
  have hk : c < NC := by show c < 97; omega
  have hE : lay c = iE 42 := by rcases hc with rfl | rfl <;> rfl
  have loop : ∀ (n0 : Nat) (i : Int) (τ : St), (0 ≤ i ∧ i ≤ 8) → (8 < i + (n0 : Int)) → (Only [76, 77, 78, 79, 80] σ τ) → (∀ j, 0 ≤ j → j < i → τ 76 j = σ c j ∧ τ 77 j = σ c (8 + j) ∧ τ 78 j = σ c (16 + j) ∧ τ 79 j = σ c (24 + j) ∧ τ 80 j = σ c (32 + j)) → (∀ j, j < 0 ∨ i ≤ j → τ 76 j = σ 76 j ∧ τ 77 j = σ 77 j ∧ τ 78 j = σ 78 j ∧ τ 79 j = σ 79 j ∧ τ 80 j = σ 80 j) → AW X V (τ) 2 [] [some (rv V 75), some (rv V c), some (iv i)] := by
    intro n0
    induction n0 with
    | zero =>
      intro i τ h0 h1 go gq gx
      exfalso
      omega
    | succ n0 ih =>
      intro i τ h0 h1 go gq gx
      refine aw_iload_n G dX10_laysBack_2 rfl ?_
      refine aw_bipush G dX10_laysBack_3 (k := ?_)
      refine aw_icmp_ge (tgt := 71) G dX10_laysBack_5 (by decide) (by first | omega | exact b01_R _ | exact bP_R _) (by first | omega | exact b01_R _ | exact bP_R _) (fun c5 => ?_) (fun c5 => ?_)
      · refine aw_aload_n G dX10_laysBack_71 rfl ?_
        refine aw_aload_n G dX10_laysBack_72 rfl ?_
        refine aw_bipush G dX10_laysBack_73 (k := ?_)
        refine aw_iaload G dX10_laysBack_75 (by first | decide | assumption | omega) (by first | rfl | assumption) (by first | decide | assumption) (by omega) ?_
        rw [go c (by simp; omega)]
        refine pf_X10_7 G dX10_laysBack_76 (kk := ?_)
        refine aw_aload_n G dX10_laysBack_79 rfl ?_
        refine aw_aload_n G dX10_laysBack_80 rfl ?_
        refine aw_bipush G dX10_laysBack_81 (k := ?_)
        refine aw_iaload G dX10_laysBack_83 (by first | decide | assumption | omega) (by first | rfl | assumption) (by first | decide | assumption) (by omega) ?_
        rw [up_o (show c ≠ 75 by omega), go c (by simp; omega)]
        refine pf_X10_82 G dX10_laysBack_84 (kk := ?_)
        exact aw_vret G T dX10_laysBack_87 (by
          have e8 : i = 8 := by omega
          subst e8
          funext k j
          unfold backR
          by_cases r0 : k = 76
          · subst r0
            rw [up_o (show (76:Nat) ≠ 75 by decide), up_o (show (76:Nat) ≠ 75 by decide)]
            by_cases q : 0 ≤ j ∧ j < 8
            · have hz := gq j q.1 q.2
              rw [if_pos ⟨rfl, q⟩]
              exact hz.1
            · have hz := gx j (by omega)
              rw [if_neg (by omega), if_neg (by omega), if_neg (by omega), if_neg (by omega), if_neg (by omega), if_neg (by omega), if_neg (by omega)]
              exact hz.1
          by_cases r1 : k = 77
          · subst r1
            rw [up_o (show (77:Nat) ≠ 75 by decide), up_o (show (77:Nat) ≠ 75 by decide)]
            by_cases q : 0 ≤ j ∧ j < 8
            · have hz := gq j q.1 q.2
              rw [if_neg (by omega), if_pos ⟨rfl, q⟩]
              exact hz.2.1
            · have hz := gx j (by omega)
              rw [if_neg (by omega), if_neg (by omega), if_neg (by omega), if_neg (by omega), if_neg (by omega), if_neg (by omega), if_neg (by omega)]
              exact hz.2.1
          by_cases r2 : k = 78
          · subst r2
            rw [up_o (show (78:Nat) ≠ 75 by decide), up_o (show (78:Nat) ≠ 75 by decide)]
            by_cases q : 0 ≤ j ∧ j < 8
            · have hz := gq j q.1 q.2
              rw [if_neg (by omega), if_neg (by omega), if_pos ⟨rfl, q⟩]
              exact hz.2.2.1
            · have hz := gx j (by omega)
              rw [if_neg (by omega), if_neg (by omega), if_neg (by omega), if_neg (by omega), if_neg (by omega), if_neg (by omega), if_neg (by omega)]
              exact hz.2.2.1
          by_cases r3 : k = 79
          · subst r3
            rw [up_o (show (79:Nat) ≠ 75 by decide), up_o (show (79:Nat) ≠ 75 by decide)]
            by_cases q : 0 ≤ j ∧ j < 8
            · have hz := gq j q.1 q.2
              rw [if_neg (by omega), if_neg (by omega), if_neg (by omega), if_pos ⟨rfl, q⟩]
              exact hz.2.2.2.1
            · have hz := gx j (by omega)
              rw [if_neg (by omega), if_neg (by omega), if_neg (by omega), if_neg (by omega), if_neg (by omega), if_neg (by omega), if_neg (by omega)]
              exact hz.2.2.2.1
          by_cases r4 : k = 80
          · subst r4
            rw [up_o (show (80:Nat) ≠ 75 by decide), up_o (show (80:Nat) ≠ 75 by decide)]
            by_cases q : 0 ≤ j ∧ j < 8
            · have hz := gq j q.1 q.2
              rw [if_neg (by omega), if_neg (by omega), if_neg (by omega), if_neg (by omega), if_pos ⟨rfl, q⟩]
              exact hz.2.2.2.2
            · have hz := gx j (by omega)
              rw [if_neg (by omega), if_neg (by omega), if_neg (by omega), if_neg (by omega), if_neg (by omega), if_neg (by omega), if_neg (by omega)]
              exact hz.2.2.2.2
          rw [if_neg (by omega), if_neg (by omega), if_neg (by omega), if_neg (by omega), if_neg (by omega)]
          unfold up
          by_cases q1 : k = 75 ∧ j = 1
          · rw [if_pos q1, if_neg (by omega), if_pos q1]
          rw [if_neg q1]
          by_cases q0 : k = 75 ∧ j = 0
          · rw [if_pos q0, if_pos q0]
          rw [if_neg q0, if_neg q0, if_neg q1, go k (by simp; omega)])
      · refine aw_aload_n G dX10_laysBack_8 rfl ?_
        refine gf_X10_13 G dX10_laysBack_9 (kk := ?_)
        refine aw_iload_n G dX10_laysBack_12 rfl ?_
        refine aw_aload_n G dX10_laysBack_13 rfl ?_
        refine aw_iload_n G dX10_laysBack_14 rfl ?_
        refine aw_iaload G dX10_laysBack_15 (by first | decide | assumption | omega) (by first | rfl | assumption) (by first | decide | assumption) (by omega) ?_
        rw [go c (by simp; omega)]
        refine aw_iastore G dX10_laysBack_16 (by first | decide | assumption | omega) (by first | rfl | assumption) (by first | decide | assumption) (by omega) ?_
        refine aw_aload_n G dX10_laysBack_17 rfl ?_
        refine gf_X10_17 G dX10_laysBack_18 (kk := ?_)
        refine aw_iload_n G dX10_laysBack_21 rfl ?_
        refine aw_aload_n G dX10_laysBack_22 rfl ?_
        refine aw_bipush G dX10_laysBack_23 (k := ?_)
        refine aw_iload_n G dX10_laysBack_25 rfl ?_
        refine aw_iadd G dX10_laysBack_26 ?_
        refine aw_iaload G dX10_laysBack_27 (by first | decide | assumption | omega) (by first | rfl | assumption) (by first | decide | assumption) (by omega) ?_
        rw [up_o (show c ≠ 76 by omega), go c (by simp; omega)]
        refine aw_iastore G dX10_laysBack_28 (by first | decide | assumption | omega) (by first | rfl | assumption) (by first | decide | assumption) (by omega) ?_
        refine aw_aload_n G dX10_laysBack_29 rfl ?_
        refine gf_X10_20 G dX10_laysBack_30 (kk := ?_)
        refine aw_iload_n G dX10_laysBack_33 rfl ?_
        refine aw_aload_n G dX10_laysBack_34 rfl ?_
        refine aw_bipush G dX10_laysBack_35 (k := ?_)
        refine aw_iload_n G dX10_laysBack_37 rfl ?_
        refine aw_iadd G dX10_laysBack_38 ?_
        refine aw_iaload G dX10_laysBack_39 (by first | decide | assumption | omega) (by first | rfl | assumption) (by first | decide | assumption) (by omega) ?_
        rw [up_o (show c ≠ 77 by omega), up_o (show c ≠ 76 by omega), go c (by simp; omega)]
        refine aw_iastore G dX10_laysBack_40 (by first | decide | assumption | omega) (by first | rfl | assumption) (by first | decide | assumption) (by omega) ?_
        refine aw_aload_n G dX10_laysBack_41 rfl ?_
        refine gf_X10_23 G dX10_laysBack_42 (kk := ?_)
        refine aw_iload_n G dX10_laysBack_45 rfl ?_
        refine aw_aload_n G dX10_laysBack_46 rfl ?_
        refine aw_bipush G dX10_laysBack_47 (k := ?_)
        refine aw_iload_n G dX10_laysBack_49 rfl ?_
        refine aw_iadd G dX10_laysBack_50 ?_
        refine aw_iaload G dX10_laysBack_51 (by first | decide | assumption | omega) (by first | rfl | assumption) (by first | decide | assumption) (by omega) ?_
        rw [up_o (show c ≠ 78 by omega), up_o (show c ≠ 77 by omega), up_o (show c ≠ 76 by omega), go c (by simp; omega)]
        refine aw_iastore G dX10_laysBack_52 (by first | decide | assumption | omega) (by first | rfl | assumption) (by first | decide | assumption) (by omega) ?_
        refine aw_aload_n G dX10_laysBack_53 rfl ?_
        refine gf_X10_26 G dX10_laysBack_54 (kk := ?_)
        refine aw_iload_n G dX10_laysBack_57 rfl ?_
        refine aw_aload_n G dX10_laysBack_58 rfl ?_
        refine aw_bipush G dX10_laysBack_59 (k := ?_)
        refine aw_iload_n G dX10_laysBack_61 rfl ?_
        refine aw_iadd G dX10_laysBack_62 ?_
        refine aw_iaload G dX10_laysBack_63 (by first | decide | assumption | omega) (by first | rfl | assumption) (by first | decide | assumption) (by omega) ?_
        rw [up_o (show c ≠ 79 by omega), up_o (show c ≠ 78 by omega), up_o (show c ≠ 77 by omega), up_o (show c ≠ 76 by omega), go c (by simp; omega)]
        refine aw_iastore G dX10_laysBack_64 (by first | decide | assumption | omega) (by first | rfl | assumption) (by first | decide | assumption) (by omega) ?_
        refine aw_iinc_2 G dX10_laysBack_65 rfl (hc := by first | rfl | assumption) (k := ?_)
        refine aw_goto (tgt := 2) G dX10_laysBack_68 (by decide) ?_
        refine ih (i + 1) _ (by omega) (by omega) (((((go.up (by decide)).up (by decide)).up (by decide)).up (by decide)).up (by decide)) (fun j a b => ?_) (fun j a => ?_)
        · by_cases e : j = i
          · subst e
            refine ⟨?_, ?_, ?_, ?_, ?_⟩
            · rw [up_o (show (76:Nat) ≠ 80 by decide), up_o (show (76:Nat) ≠ 79 by decide), up_o (show (76:Nat) ≠ 78 by decide), up_o (show (76:Nat) ≠ 77 by decide), up_at]
            · rw [up_o (show (77:Nat) ≠ 80 by decide), up_o (show (77:Nat) ≠ 79 by decide), up_o (show (77:Nat) ≠ 78 by decide), up_at]
            · rw [up_o (show (78:Nat) ≠ 80 by decide), up_o (show (78:Nat) ≠ 79 by decide), up_at]
            · rw [up_o (show (79:Nat) ≠ 80 by decide), up_at]
            · rw [up_at]
          · have hz := gq j a (by omega)
            refine ⟨?_, ?_, ?_, ?_, ?_⟩
            · rw [up_o (show (76:Nat) ≠ 80 by decide), up_o (show (76:Nat) ≠ 79 by decide), up_o (show (76:Nat) ≠ 78 by decide), up_o (show (76:Nat) ≠ 77 by decide), up_nj (by omega)]
              exact hz.1
            · rw [up_o (show (77:Nat) ≠ 80 by decide), up_o (show (77:Nat) ≠ 79 by decide), up_o (show (77:Nat) ≠ 78 by decide), up_nj (by omega), up_o (show (77:Nat) ≠ 76 by decide)]
              exact hz.2.1
            · rw [up_o (show (78:Nat) ≠ 80 by decide), up_o (show (78:Nat) ≠ 79 by decide), up_nj (by omega), up_o (show (78:Nat) ≠ 77 by decide), up_o (show (78:Nat) ≠ 76 by decide)]
              exact hz.2.2.1
            · rw [up_o (show (79:Nat) ≠ 80 by decide), up_nj (by omega), up_o (show (79:Nat) ≠ 78 by decide), up_o (show (79:Nat) ≠ 77 by decide), up_o (show (79:Nat) ≠ 76 by decide)]
              exact hz.2.2.2.1
            · rw [up_nj (by omega), up_o (show (80:Nat) ≠ 79 by decide), up_o (show (80:Nat) ≠ 78 by decide), up_o (show (80:Nat) ≠ 77 by decide), up_o (show (80:Nat) ≠ 76 by decide)]
              exact hz.2.2.2.2
        · have hz := gx j (by omega)
          refine ⟨?_, ?_, ?_, ?_, ?_⟩
          · rw [up_o (show (76:Nat) ≠ 80 by decide), up_o (show (76:Nat) ≠ 79 by decide), up_o (show (76:Nat) ≠ 78 by decide), up_o (show (76:Nat) ≠ 77 by decide), up_nj (by omega)]
            exact hz.1
          · rw [up_o (show (77:Nat) ≠ 80 by decide), up_o (show (77:Nat) ≠ 79 by decide), up_o (show (77:Nat) ≠ 78 by decide), up_nj (by omega), up_o (show (77:Nat) ≠ 76 by decide)]
            exact hz.2.1
          · rw [up_o (show (78:Nat) ≠ 80 by decide), up_o (show (78:Nat) ≠ 79 by decide), up_nj (by omega), up_o (show (78:Nat) ≠ 77 by decide), up_o (show (78:Nat) ≠ 76 by decide)]
            exact hz.2.2.1
          · rw [up_o (show (79:Nat) ≠ 80 by decide), up_nj (by omega), up_o (show (79:Nat) ≠ 78 by decide), up_o (show (79:Nat) ≠ 77 by decide), up_o (show (79:Nat) ≠ 76 by decide)]
            exact hz.2.2.2.1
          · rw [up_nj (by omega), up_o (show (80:Nat) ≠ 79 by decide), up_o (show (80:Nat) ≠ 78 by decide), up_o (show (80:Nat) ≠ 77 by decide), up_o (show (80:Nat) ≠ 76 by decide)]
            exact hz.2.2.2.2
        
  refine aw_iconst G dX10_laysBack_0 ?_
  refine aw_istore_2 G dX10_laysBack_1 (hc := by first | rfl | assumption) (k := ?_)
  exact loop 9 0 σ (by omega) (by omega) Only.rf (fun j a b => by omega) (fun j a => ⟨rfl, rfl, rfl, rfl, rfl⟩)
set_option maxHeartbeats 4000000 in
theorem c_X10_image {V : Wd} {σ : St}   : Ct V yX10_image cX10_image 1 (some .int) 1 22 [rv V 75] σ (PI (fun r τ => r = an_image σ ∧ τ = nx_image σ)) := by
  refine ct_of (by decide) (Nat.le_of_ble_eq_true rfl) (fun X G T => ?_)
  have G : Gd X V cX10_image RX10 1 1 22 := G
  show AW X V σ 0 [] [some (rv V 75)]
  refine aw_aload_n G dX10_image_0 rfl ?_
  refine aw_iconst G dX10_image_1 ?_
  refine pf_X10_258 G dX10_image_2 (Or.inr rfl) (kk := ?_)
  refine aw_aload_n G dX10_image_5 rfl ?_
  refine aw_aload_n G dX10_image_6 rfl ?_
  refine gf_X10_72 G dX10_image_7 (kk := ?_)
  refine cv_X10_115 G dX10_image_10 (c_X10_keeps (by decide)) (kk := fun t10 h10 => ?_)
  obtain rfl := h10.symm
  refine aw_aload_n G dX10_image_13 rfl ?_
  refine gf_X10_82 G dX10_image_14 (kk := ?_)
  exact aw_iret G T dX10_image_17 (⟨by unfold keepR; rw [if_neg (by decide), up_nj (by decide)]; rfl, rfl⟩)

set_option maxHeartbeats 4000000 in
theorem c_X10_on {V : Wd} {σ : St}  (hk : OK σ) : Ct V yX10_on cX10_on 1 (some .int) 1 22 [rv V 75] σ (PI (fun r τ => r = an_on σ ∧ τ = nx_on σ)) := by
  refine ct_of (by decide) (Nat.le_of_ble_eq_true rfl) (fun X G T => ?_)
  have G : Gd X V cX10_on RX10 1 1 22 := G
  show AW X V σ 0 [] [some (rv V 75)]
  obtain ⟨⟨n1, n2, n3, n4, n5, n6⟩, u1, l1, l2, i1, s1, w1⟩ := id hk
  refine aw_aload_n G dX10_on_0 rfl ?_
  refine gf_X10_258 G dX10_on_1 (kk := ?_)
  refine aw_if_ne (tgt := 14) G dX10_on_4 (by decide) (by omega) (fun c4 => ?_) (fun c4 => ?_)
  · try simp only [b01_0, b01_n, bP_0, bP_n, Classical.not_not] at c4
    refine aw_aload_n G dX10_on_14 rfl ?_
    refine aw_aload_n G dX10_on_15 rfl ?_
    refine gf_X10_72 G dX10_on_16 (kk := ?_)
    refine cv_X10_122 G dX10_on_19 (c_X10_laysBack (by decide)) (kk := fun t19 h19 => ?_)
    obtain rfl := h19.symm
    refine aw_aload_n G dX10_on_22 rfl ?_
    refine aw_iconst G dX10_on_23 ?_
    refine pf_X10_125 G dX10_on_24 (kk := ?_)
    refine aw_aload_n G dX10_on_27 rfl ?_
    refine gf_X10_82 G dX10_on_28 (kk := ?_)
    exact aw_iret G T dX10_on_31 (⟨by rw [up_nj (by decide)]; unfold an_on; rw [if_neg c4]; rfl, by unfold nx_on; rw [if_neg c4]⟩)
  · try simp only [b01_0, b01_n, bP_0, bP_n, Classical.not_not] at c4
    refine aw_aload_n G dX10_on_7 rfl ?_
    refine aw_bipush G dX10_on_8 (k := ?_)
    refine cv_X10_87 G dX10_on_10 (c_X10_refused (by decide)) (kk := fun r10 t10 h10 => ?_)
    obtain ⟨rfl, e10⟩ := h10
    obtain rfl := e10.symm
    exact aw_iret G T dX10_on_13 (⟨by unfold an_on; (repeat' split) <;> first | rfl | (exfalso; omega) | omega, by unfold nx_on; (repeat' split) <;> first | rfl | (exfalso; omega) | omega⟩)

set_option maxHeartbeats 4000000 in
theorem c_X10_count {V : Wd} {σ : St} {v : Int} (h1 : inR v) (hk : OK σ) : Ct V yX10_count cX10_count 4 (some .int) 1 22 [rv V 75, iv v] σ (PI (fun r τ => r = an_count σ v ∧ τ = σ)) := by
  refine ct_of (by decide) (Nat.le_of_ble_eq_true rfl) (fun X G T => ?_)
  have G : Gd X V cX10_count RX10 4 1 22 := G
  show AW X V σ 0 [] [some (rv V 75), some (iv v), none, none]
  obtain ⟨⟨n1, n2, n3, n4, n5, n6⟩, u1, l1, l2, i1, s1, w1⟩ := id hk
  have loop : ∀ (n0 : Nat) (i : Int), (v = 4) → (0 ≤ i ∧ i ≤ σ 75 1) → (σ 75 1 < i + (n0 : Int)) → AW X V (σ) 82 [] [some (rv V 75), some (iv v), some (iv (sumTo (σ 80) i.toNat)), some (iv i)] := by
    intro n0
    induction n0 with
    | zero =>
      intro i hv h0 h3
      exfalso
      omega
    | succ n0 ih =>
      intro i hv h0 h3
      refine aw_iload_n G dX10_count_82 rfl ?_
      refine aw_aload_n G dX10_count_83 rfl ?_
      refine gf_X10_82 G dX10_count_84 (kk := ?_)
      refine aw_icmp_ge (tgt := 105) G dX10_count_87 (by decide) (by first | omega | exact b01_R _ | exact bP_R _) (by first | omega | exact b01_R _ | exact bP_R _) (fun c87 => ?_) (fun c87 => ?_)
      · refine aw_iload_n G dX10_count_105 rfl ?_
        exact aw_iret G T dX10_count_106 (⟨by unfold an_count; rw [if_neg (by omega), if_neg (by omega), if_neg (by omega), if_neg (by omega), if_neg (by omega), if_pos hv, show i = σ 75 1 by omega], rfl⟩)
      · refine aw_iload_n G dX10_count_90 rfl ?_
        refine aw_aload_n G dX10_count_91 rfl ?_
        refine gf_X10_26 G dX10_count_92 (kk := ?_)
        refine aw_iload_n G dX10_count_95 rfl ?_
        refine aw_iaload G dX10_count_96 (by first | decide | assumption | omega) (by first | rfl | assumption) (by first | decide | assumption) (by omega) ?_
        refine aw_iadd G dX10_count_97 ?_
        refine aw_istore_2 G dX10_count_98 (hc := by first | rfl | assumption) (k := ?_)
        refine aw_iinc_3 G dX10_count_99 rfl (hc := by first | rfl | assumption) (k := ?_)
        refine aw_goto (tgt := 82) G dX10_count_102 (by decide) ?_
        have hz := ih (i + 1) hv (by omega) (by omega)
        rw [show (i + 1).toNat = i.toNat + 1 by omega, sumTo_s, show ((i.toNat : Nat) : Int) = i by omega] at hz
        exact hz
  refine aw_iload_n G dX10_count_0 rfl ?_
  refine aw_bipush G dX10_count_1 (k := ?_)
  refine aw_bipush G dX10_count_3 (k := ?_)
  refine cs_X10_78 G dX10_count_5 (c_X10_in (by first | assumption | omega) (by first | assumption | omega) (by first | assumption | omega)) (kk := fun r5 t5 h5 => ?_)
  obtain ⟨rfl, e5⟩ := h5
  obtain rfl := e5.symm
  refine aw_if_eq (tgt := 21) G dX10_count_8 (by decide) (by first | omega | exact b01_R _ | exact bP_R _) (fun c8 => ?_) (fun c8 => ?_)
  · try simp only [b01_0, b01_n, bP_0, bP_n, Classical.not_not] at c8
    refine aw_iconst G dX10_count_21 ?_
    refine aw_istore_2 G dX10_count_22 (hc := by first | rfl | assumption) (k := ?_)
    refine aw_iload_n G dX10_count_23 rfl ?_
    by_cases s24_0 : v = 0
    · refine aw_tswIn (off := 36) (tgt := 60) G dX10_count_24 (by first | omega | exact b01_R _ | exact bP_R _) (by omega) (by omega) (by rw [s24_0]; rfl) (by decide) ?_
      refine aw_aload_n G dX10_count_60 rfl ?_
      refine gf_X10_7 G dX10_count_61 (kk := ?_)
      exact aw_iret G T dX10_count_64 (⟨by unfold an_count; (repeat' split) <;> first | rfl | (exfalso; omega) | omega, rfl⟩)
    by_cases s24_1 : v = 1
    · refine aw_tswIn (off := 41) (tgt := 65) G dX10_count_24 (by first | omega | exact b01_R _ | exact bP_R _) (by omega) (by omega) (by rw [s24_1]; rfl) (by decide) ?_
      refine aw_aload_n G dX10_count_65 rfl ?_
      refine gf_X10_82 G dX10_count_66 (kk := ?_)
      exact aw_iret G T dX10_count_69 (⟨by unfold an_count; (repeat' split) <;> first | rfl | (exfalso; omega) | omega, rfl⟩)
    by_cases s24_2 : v = 2
    · refine aw_tswIn (off := 46) (tgt := 70) G dX10_count_24 (by first | omega | exact b01_R _ | exact bP_R _) (by omega) (by omega) (by rw [s24_2]; rfl) (by decide) ?_
      refine aw_aload_n G dX10_count_70 rfl ?_
      refine gf_X10_91 G dX10_count_71 (kk := ?_)
      exact aw_iret G T dX10_count_74 (⟨by unfold an_count; (repeat' split) <;> first | rfl | (exfalso; omega) | omega, rfl⟩)
    by_cases s24_3 : v = 3
    · refine aw_tswIn (off := 51) (tgt := 75) G dX10_count_24 (by first | omega | exact b01_R _ | exact bP_R _) (by omega) (by omega) (by rw [s24_3]; rfl) (by decide) ?_
      refine aw_aload_n G dX10_count_75 rfl ?_
      refine gf_X10_125 G dX10_count_76 (kk := ?_)
      exact aw_iret G T dX10_count_79 (⟨by unfold an_count; (repeat' split) <;> first | rfl | (exfalso; omega) | omega, rfl⟩)
    by_cases s24_4 : v = 4
    · refine aw_tswIn (off := 56) (tgt := 80) G dX10_count_24 (by first | omega | exact b01_R _ | exact bP_R _) (by omega) (by omega) (by rw [s24_4]; rfl) (by decide) ?_
      refine aw_iconst G dX10_count_80 ?_
      refine aw_istore_3 G dX10_count_81 (hc := by first | rfl | assumption) (k := ?_)
      exact loop ((σ 75 1).toNat + 1) 0 s24_4 (by omega) (by omega)
    refine aw_tswOut (tgt := 107) G dX10_count_24 (by first | omega | exact b01_R _ | exact bP_R _) (by omega) (by decide) ?_
    refine aw_bipush G dX10_count_107 (k := ?_)
    exact aw_iret G T dX10_count_109 (⟨by unfold an_count; (repeat' split) <;> first | rfl | (exfalso; omega) | omega, rfl⟩)
  · try simp only [b01_0, b01_n, bP_0, bP_n, Classical.not_not] at c8
    refine aw_aload_n G dX10_count_11 rfl ?_
    refine gf_X10_47 G dX10_count_12 (kk := ?_)
    refine aw_iload_n G dX10_count_15 rfl ?_
    refine aw_bipush G dX10_count_16 (k := ?_)
    refine aw_isub G dX10_count_18 ?_
    refine aw_iaload G dX10_count_19 (by first | decide | assumption | omega) (by first | rfl | assumption) (by first | decide | assumption) (by omega) ?_
    exact aw_iret G T dX10_count_20 (⟨by unfold an_count; (repeat' split) <;> first | rfl | (exfalso; omega) | omega, rfl⟩)
