def fgs (c : Int) : Int := if c = 110 then 1 else if c = 102 then 2 else 3
theorem fgs_d {c : Int} (h : 1 ≤ dgs c) : fgs c = dgs c := by
  unfold dgs at h ⊢
  unfold fgs
  (repeat' split at h) <;> (repeat' split) <;> omega
theorem fgs_R (c : Int) : 1 ≤ fgs c ∧ fgs c ≤ 3 := by
  unfold fgs
  (repeat' split) <;> omega
set_option maxHeartbeats 4000000 in
theorem c_X10_figuresOf {V : Wd} {σ : St} {c : Int} (hc : inR c) : Ct V yX10_figuresOf cX10_figuresOf 1 (some .int) 0 0 [iv c] σ (PI (fun r τ => r = fgs c ∧ τ = σ)) := by
  refine ct_of (by decide) (Nat.le_of_ble_eq_true rfl) (fun X G T => ?_)
  have G : Gd X V cX10_figuresOf RX10 1 0 0 := G
  show AW X V σ 0 [] [some (iv c)]
  refine aw_iload_n G dX10_figuresOf_0 rfl ?_
  refine aw_bipush G dX10_figuresOf_1 (k := ?_)
  refine aw_icmp_ne (tgt := 10) G dX10_figuresOf_3 (by decide) (by first | omega | exact b01_R _ | exact bP_R _) (by first | omega | exact b01_R _ | exact bP_R _) (fun c3 => ?_) (fun c3 => ?_)
  · refine aw_iload_n G dX10_figuresOf_10 rfl ?_
    refine aw_bipush G dX10_figuresOf_11 (k := ?_)
    refine aw_icmp_ne (tgt := 20) G dX10_figuresOf_13 (by decide) (by first | omega | exact b01_R _ | exact bP_R _) (by first | omega | exact b01_R _ | exact bP_R _) (fun c13 => ?_) (fun c13 => ?_)
    · refine aw_iconst G dX10_figuresOf_20 ?_
      exact aw_iret G T dX10_figuresOf_21 (⟨by unfold fgs; (repeat' split) <;> first | rfl | omega, rfl⟩)
    · refine aw_iconst G dX10_figuresOf_16 ?_
      refine aw_goto (tgt := 21) G dX10_figuresOf_17 (by decide) ?_
      exact aw_iret G T dX10_figuresOf_21 (⟨by unfold fgs; (repeat' split) <;> first | rfl | omega, rfl⟩)
  · refine aw_iconst G dX10_figuresOf_6 ?_
    refine aw_goto (tgt := 21) G dX10_figuresOf_7 (by decide) ?_
    exact aw_iret G T dX10_figuresOf_21 (⟨by unfold fgs; (repeat' split) <;> first | rfl | omega, rfl⟩)

set_option maxHeartbeats 4000000 in
theorem c_X10_digitAt {V : Wd} {σ : St} {p : Int} (hp : 0 ≤ p ∧ p < 72) : Ct V yX10_digitAt cX10_digitAt 2 (some .int) 0 0 [rv V 75, iv p] σ (PI (fun r τ => r = σ 84 p - 48 ∧ τ = σ)) := by
  refine ct_of (by decide) (Nat.le_of_ble_eq_true rfl) (fun X G T => ?_)
  have G : Gd X V cX10_digitAt RX10 2 0 0 := G
  show AW X V σ 0 [] [some (rv V 75), some (iv p)]
  refine aw_aload_n G dX10_digitAt_0 rfl ?_
  refine gf_X10_38 G dX10_digitAt_1 (kk := ?_)
  refine aw_iload_n G dX10_digitAt_4 rfl ?_
  refine aw_iaload G dX10_digitAt_5 (by first | decide | assumption | omega) (by first | rfl | assumption) (by first | decide | assumption) (by omega) ?_
  refine aw_bipush G dX10_digitAt_6 (k := ?_)
  refine aw_isub G dX10_digitAt_8 ?_
  exact aw_iret G T dX10_digitAt_9 (⟨rfl, rfl⟩)

set_option maxHeartbeats 4000000 in
theorem c_X10_formFault {V : Wd} {σ : St}  (hm : 0 ≤ σ 75 12 ∧ σ 75 12 ≤ 72) (hf : ∀ i : Int, 0 ≤ i → i < σ 75 12 → 0 ≤ σ 84 i ∧ σ 84 i ≤ 255) : Ct V yX10_formFault cX10_formFault 4 (some .int) 1 22 [rv V 75] σ (PI (fun r τ => r = misF σ ∧ τ = σ)) := by
  refine ct_of (by decide) (Nat.le_of_ble_eq_true rfl) (fun X G T => ?_)
  have G : Gd X V cX10_formFault RX10 4 1 22 := G
  show AW X V σ 0 [] [some (rv V 75), none, none, none]
  have loop : ∀ (n0 : Nat) (i : Int) (u : Option Value) (v : Option Value), (0 ≤ i ∧ i ≤ σ 75 12 ∧ (i < σ 75 12 ∨ i = 0)) → (σ 75 12 < i + (n0 : Int)) → (lcat u = 1) → (lcat v = 1) → (mis (σ 84) (σ 75 12) (σ 75 12 - i).toNat i (-1) = misF σ) → AW X V (σ) 2 [] [some (rv V 75), some (iv i), u, v] := by
    intro n0
    induction n0 with
    | zero =>
      intro i u v h0 h1 hu hv hq
      exfalso
      omega
    | succ n0 ih =>
      intro i u v h0 h1 hu hv hq
      have inner : ∀ (n1 : Nat) (c : Int) (k : Int) (j : Int), (1 ≤ dgs c ∧ inR c) → (0 ≤ k ∧ k ≤ dgs c) → (dgs c < k + (n1 : Int)) → (i < j ∧ j ≤ σ 75 12) → (mis (σ 84) (σ 75 12) (σ 75 12 - j).toNat j (dgs c - k) = misF σ) → AW X V (σ) 52 [] [some (rv V 75), some (iv j), some (iv c), some (iv k)] := by
        intro n1
        induction n1 with
        | zero =>
          intro c k j hd g0 g1 gj gq
          exfalso
          omega
        | succ n1 ih1 =>
          intro c k j hd g0 g1 gj gq
          have hdr := dgs_R c
          have hfg := fgs_d hd.1
          refine aw_iload_n G dX10_formFault_52 rfl ?_
          refine aw_iload_n G dX10_formFault_53 rfl ?_
          refine cs_X10_94 G dX10_formFault_54 (c_X10_figuresOf hd.2) (kk := fun r54 t54 h54 => ?_)
          obtain ⟨rfl, ee54⟩ := h54
          obtain rfl := ee54.symm
          rw [hfg]
          refine aw_icmp_ge (tgt := 95) G dX10_formFault_57 (by decide) (by first | omega | exact b01_R _ | exact bP_R _) (by first | omega | exact b01_R _ | exact bP_R _) (fun c57 => ?_) (fun c57 => ?_)
          · refine aw_iload_n G dX10_formFault_95 rfl ?_
            refine aw_aload_n G dX10_formFault_96 rfl ?_
            refine gf_X10_91 G dX10_formFault_97 (kk := ?_)
            refine aw_icmp_eq (tgt := 114) G dX10_formFault_100 (by decide) (by first | omega | exact b01_R _ | exact bP_R _) (by first | omega | exact b01_R _ | exact bP_R _) (fun c100 => ?_) (fun c100 => ?_)
            · refine aw_iload_n G dX10_formFault_114 rfl ?_
              exact aw_iret G T dX10_formFault_115 (by
              refine ⟨?_, rfl⟩
              rw [← gq]
              first
                | (rw [show (σ 75 12 - j).toNat = 0 by omega]; unfold mis; rw [if_neg (by omega)]; omega)
                | (rw [show (σ 75 12 - j).toNat = (σ 75 12 - (j + 1)).toNat + 1 by omega, mis_s, if_neg (by omega), if_neg (by omega), if_neg (by omega)]))
            · have hfj := hf j (by omega) (by omega)
              refine aw_aload_n G dX10_formFault_103 rfl ?_
              refine gf_X10_38 G dX10_formFault_104 (kk := ?_)
              refine aw_iload_n G dX10_formFault_107 rfl ?_
              refine aw_iaload G dX10_formFault_108 (by first | decide | assumption | omega) (by first | rfl | assumption) (by first | decide | assumption) (by omega) ?_
              refine aw_bipush G dX10_formFault_109 (k := ?_)
              refine aw_icmp_eq (tgt := 116) G dX10_formFault_111 (by decide) (by first | omega | exact b01_R _ | exact bP_R _) (by first | omega | exact b01_R _ | exact bP_R _) (fun c111 => ?_) (fun c111 => ?_)
              · refine aw_iinc_1 G dX10_formFault_116 rfl (hc := by first | rfl | assumption) (k := ?_)
                refine aw_iload_n G dX10_formFault_119 rfl ?_
                refine aw_aload_n G dX10_formFault_120 rfl ?_
                refine gf_X10_91 G dX10_formFault_121 (kk := ?_)
                refine aw_icmp_lt (tgt := 2) G dX10_formFault_124 (by decide) (by first | omega | exact b01_R _ | exact bP_R _) (by first | omega | exact b01_R _ | exact bP_R _) (fun c124 => ?_) (fun c124 => ?_)
                · rw [show (σ 75 12 - j).toNat = (σ 75 12 - (j + 1)).toNat + 1 by omega, mis_s, if_neg (by omega), if_neg (by omega), if_pos (by omega)] at gq
                  exact ih (j + 1) _ _ (by omega) (by omega) rfl rfl gq
                · refine aw_iconst G dX10_formFault_127 ?_
                  exact aw_iret G T dX10_formFault_128 (by
              refine ⟨?_, rfl⟩
              rw [← gq, show (σ 75 12 - j).toNat = (σ 75 12 - (j + 1)).toNat + 1 by omega, mis_s, if_neg (by omega), if_neg (by omega), if_pos (by omega), show (σ 75 12 - (j + 1)).toNat = 0 by omega]
              unfold mis
              rw [if_pos (by omega)])
              · refine aw_iload_n G dX10_formFault_114 rfl ?_
                exact aw_iret G T dX10_formFault_115 (by
              refine ⟨?_, rfl⟩
              rw [← gq]
              first
                | (rw [show (σ 75 12 - j).toNat = 0 by omega]; unfold mis; rw [if_neg (by omega)]; omega)
                | (rw [show (σ 75 12 - j).toNat = (σ 75 12 - (j + 1)).toNat + 1 by omega, mis_s, if_neg (by omega), if_neg (by omega), if_neg (by omega)]))
          · refine aw_iload_n G dX10_formFault_60 rfl ?_
            refine aw_aload_n G dX10_formFault_61 rfl ?_
            refine gf_X10_91 G dX10_formFault_62 (kk := ?_)
            refine aw_icmp_eq (tgt := 84) G dX10_formFault_65 (by decide) (by first | omega | exact b01_R _ | exact bP_R _) (by first | omega | exact b01_R _ | exact bP_R _) (fun c65 => ?_) (fun c65 => ?_)
            · refine aw_iload_n G dX10_formFault_84 rfl ?_
              exact aw_iret G T dX10_formFault_85 (by
              refine ⟨?_, rfl⟩
              rw [← gq]
              first
                | (rw [show (σ 75 12 - j).toNat = 0 by omega]; unfold mis; rw [if_neg (by omega)]; omega)
                | (rw [show (σ 75 12 - j).toNat = (σ 75 12 - (j + 1)).toNat + 1 by omega, mis_s, if_neg (by omega), if_pos (by omega), if_pos (by omega)]))
            · have hfj := hf j (by omega) (by omega)
              refine aw_aload_n G dX10_formFault_68 rfl ?_
              refine gf_X10_38 G dX10_formFault_69 (kk := ?_)
              refine aw_iload_n G dX10_formFault_72 rfl ?_
              refine aw_iaload G dX10_formFault_73 (by first | decide | assumption | omega) (by first | rfl | assumption) (by first | decide | assumption) (by omega) ?_
              refine aw_bipush G dX10_formFault_74 (k := ?_)
              refine aw_bipush G dX10_formFault_76 (k := ?_)
              refine cs_X10_78 G dX10_formFault_78 (c_X10_in (by first | assumption | omega) (by first | assumption | omega) (by first | assumption | omega)) (kk := fun r78 t78 h78 => ?_)
              obtain ⟨rfl, ee78⟩ := h78
              obtain rfl := ee78.symm
              refine aw_if_ne (tgt := 86) G dX10_formFault_81 (by decide) (by first | omega | exact b01_R _ | exact bP_R _) (fun c81 => ?_) (fun c81 => ?_)
              · try simp only [b01_0, b01_n, bP_0, bP_n, Classical.not_not] at c81
                refine aw_iinc_1 G dX10_formFault_86 rfl (hc := by first | rfl | assumption) (k := ?_)
                refine aw_iinc_3 G dX10_formFault_89 rfl (hc := by first | rfl | assumption) (k := ?_)
                refine aw_goto (tgt := 52) G dX10_formFault_92 (by decide) ?_
                rw [show (σ 75 12 - j).toNat = (σ 75 12 - (j + 1)).toNat + 1 by omega, mis_s, if_neg (by omega), if_pos (by omega), if_neg (by omega), show dgs c - k - 1 = dgs c - (k + 1) by omega] at gq
                exact ih1 c (k + 1) (j + 1) hd (by omega) (by omega) (by omega) gq
              · try simp only [b01_0, b01_n, bP_0, bP_n, Classical.not_not] at c81
                refine aw_iload_n G dX10_formFault_84 rfl ?_
                exact aw_iret G T dX10_formFault_85 (by
              refine ⟨?_, rfl⟩
              rw [← gq]
              first
                | (rw [show (σ 75 12 - j).toNat = 0 by omega]; unfold mis; rw [if_neg (by omega)]; omega)
                | (rw [show (σ 75 12 - j).toNat = (σ 75 12 - (j + 1)).toNat + 1 by omega, mis_s, if_neg (by omega), if_pos (by omega), if_pos (by omega)]))
      have hfi := fun q => hf i h0.1 q
      refine aw_iload_n G dX10_formFault_2 rfl ?_
      refine aw_aload_n G dX10_formFault_3 rfl ?_
      refine gf_X10_91 G dX10_formFault_4 (kk := ?_)
      refine aw_icmp_ge (tgt := 19) G dX10_formFault_7 (by decide) (by first | omega | exact b01_R _ | exact bP_R _) (by first | omega | exact b01_R _ | exact bP_R _) (fun c7 => ?_) (fun c7 => ?_)
      · refine aw_iconst G dX10_formFault_19 ?_
        refine aw_istore_2 G dX10_formFault_20 (hc := by first | rfl | assumption) (k := ?_)
        refine aw_iload_n G dX10_formFault_21 rfl ?_
        refine aw_bipush G dX10_formFault_22 (k := ?_)
        refine aw_icmp_eq (tgt := 47) G dX10_formFault_24 (by decide) (by first | omega | exact b01_R _ | exact bP_R _) (by first | omega | exact b01_R _ | exact bP_R _) (fun c24 => ?_) (fun c24 => ?_)
        · refine aw_iinc_1 G dX10_formFault_47 rfl (hc := by first | rfl | assumption) (k := ?_)
          refine aw_iconst G dX10_formFault_50 ?_
          refine aw_istore_3 G dX10_formFault_51 (hc := by first | rfl | assumption) (k := ?_)
          first
            | (exfalso; omega)
            | (have hfi := hf i (by omega) (by omega)
               have hdi : 1 ≤ dgs (σ 84 i) := by unfold dgs; simp only [*]; simp
               rw [show (σ 75 12 - i).toNat = (σ 75 12 - (i + 1)).toNat + 1 by omega, mis_s, if_pos rfl, if_neg (by omega)] at hq
               exact inner 4 (σ 84 i) 0 (i + 1) ⟨hdi, by omega⟩ (by omega) (by have := dgs_R (σ 84 i); omega) (by omega) (by rw [show dgs (σ 84 i) - 0 = dgs (σ 84 i) by omega]; exact hq))
        · refine aw_iload_n G dX10_formFault_27 rfl ?_
          refine aw_bipush G dX10_formFault_28 (k := ?_)
          refine aw_icmp_eq (tgt := 47) G dX10_formFault_30 (by decide) (by first | omega | exact b01_R _ | exact bP_R _) (by first | omega | exact b01_R _ | exact bP_R _) (fun c30 => ?_) (fun c30 => ?_)
          · refine aw_iinc_1 G dX10_formFault_47 rfl (hc := by first | rfl | assumption) (k := ?_)
            refine aw_iconst G dX10_formFault_50 ?_
            refine aw_istore_3 G dX10_formFault_51 (hc := by first | rfl | assumption) (k := ?_)
            first
              | (exfalso; omega)
              | (have hfi := hf i (by omega) (by omega)
                 have hdi : 1 ≤ dgs (σ 84 i) := by unfold dgs; simp only [*]; simp
                 rw [show (σ 75 12 - i).toNat = (σ 75 12 - (i + 1)).toNat + 1 by omega, mis_s, if_pos rfl, if_neg (by omega)] at hq
                 exact inner 4 (σ 84 i) 0 (i + 1) ⟨hdi, by omega⟩ (by omega) (by have := dgs_R (σ 84 i); omega) (by omega) (by rw [show dgs (σ 84 i) - 0 = dgs (σ 84 i) by omega]; exact hq))
          · refine aw_iload_n G dX10_formFault_33 rfl ?_
            refine aw_bipush G dX10_formFault_34 (k := ?_)
            refine aw_icmp_eq (tgt := 47) G dX10_formFault_36 (by decide) (by first | omega | exact b01_R _ | exact bP_R _) (by first | omega | exact b01_R _ | exact bP_R _) (fun c36 => ?_) (fun c36 => ?_)
            · refine aw_iinc_1 G dX10_formFault_47 rfl (hc := by first | rfl | assumption) (k := ?_)
              refine aw_iconst G dX10_formFault_50 ?_
              refine aw_istore_3 G dX10_formFault_51 (hc := by first | rfl | assumption) (k := ?_)
              first
                | (exfalso; omega)
                | (have hfi := hf i (by omega) (by omega)
                   have hdi : 1 ≤ dgs (σ 84 i) := by unfold dgs; simp only [*]; simp
                   rw [show (σ 75 12 - i).toNat = (σ 75 12 - (i + 1)).toNat + 1 by omega, mis_s, if_pos rfl, if_neg (by omega)] at hq
                   exact inner 4 (σ 84 i) 0 (i + 1) ⟨hdi, by omega⟩ (by omega) (by have := dgs_R (σ 84 i); omega) (by omega) (by rw [show dgs (σ 84 i) - 0 = dgs (σ 84 i) by omega]; exact hq))
            · refine aw_iload_n G dX10_formFault_39 rfl ?_
              refine aw_bipush G dX10_formFault_40 (k := ?_)
              refine aw_icmp_eq (tgt := 47) G dX10_formFault_42 (by decide) (by first | omega | exact b01_R _ | exact bP_R _) (by first | omega | exact b01_R _ | exact bP_R _) (fun c42 => ?_) (fun c42 => ?_)
              · refine aw_iinc_1 G dX10_formFault_47 rfl (hc := by first | rfl | assumption) (k := ?_)
                refine aw_iconst G dX10_formFault_50 ?_
                refine aw_istore_3 G dX10_formFault_51 (hc := by first | rfl | assumption) (k := ?_)
                first
                  | (exfalso; omega)
                  | (have hfi := hf i (by omega) (by omega)
                     have hdi : 1 ≤ dgs (σ 84 i) := by unfold dgs; simp only [*]; simp
                     rw [show (σ 75 12 - i).toNat = (σ 75 12 - (i + 1)).toNat + 1 by omega, mis_s, if_pos rfl, if_neg (by omega)] at hq
                     exact inner 4 (σ 84 i) 0 (i + 1) ⟨hdi, by omega⟩ (by omega) (by have := dgs_R (σ 84 i); omega) (by omega) (by rw [show dgs (σ 84 i) - 0 = dgs (σ 84 i) by omega]; exact hq))
              · refine aw_iload_n G dX10_formFault_45 rfl ?_
                exact aw_iret G T dX10_formFault_46 (by
          refine ⟨?_, rfl⟩
          rw [← hq]
          first
            | (rw [show (σ 75 12 - i).toNat = (σ 75 12 - (i + 1)).toNat + 1 by omega, mis_s, if_pos rfl, if_pos (by have := hfi (by omega); unfold dgs; simp only [*]; simp)])
            | (rw [show (σ 75 12 - i).toNat = 0 by omega]; unfold mis; rw [if_neg (by omega)]; omega))
      · refine aw_aload_n G dX10_formFault_10 rfl ?_
        refine gf_X10_38 G dX10_formFault_11 (kk := ?_)
        refine aw_iload_n G dX10_formFault_14 rfl ?_
        refine aw_iaload G dX10_formFault_15 (by first | decide | assumption | omega) (by first | rfl | assumption) (by first | decide | assumption) (by omega) ?_
        have hfj := hfi (by omega)
        refine aw_goto (tgt := 20) G dX10_formFault_16 (by decide) ?_
        refine aw_istore_2 G dX10_formFault_20 (hc := by first | rfl | assumption) (k := ?_)
        refine aw_iload_n G dX10_formFault_21 rfl ?_
        refine aw_bipush G dX10_formFault_22 (k := ?_)
        refine aw_icmp_eq (tgt := 47) G dX10_formFault_24 (by decide) (by first | omega | exact b01_R _ | exact bP_R _) (by first | omega | exact b01_R _ | exact bP_R _) (fun c24 => ?_) (fun c24 => ?_)
        · refine aw_iinc_1 G dX10_formFault_47 rfl (hc := by first | rfl | assumption) (k := ?_)
          refine aw_iconst G dX10_formFault_50 ?_
          refine aw_istore_3 G dX10_formFault_51 (hc := by first | rfl | assumption) (k := ?_)
          first
            | (exfalso; omega)
            | (have hfi := hf i (by omega) (by omega)
               have hdi : 1 ≤ dgs (σ 84 i) := by unfold dgs; simp only [*]; simp
               rw [show (σ 75 12 - i).toNat = (σ 75 12 - (i + 1)).toNat + 1 by omega, mis_s, if_pos rfl, if_neg (by omega)] at hq
               exact inner 4 (σ 84 i) 0 (i + 1) ⟨hdi, by omega⟩ (by omega) (by have := dgs_R (σ 84 i); omega) (by omega) (by rw [show dgs (σ 84 i) - 0 = dgs (σ 84 i) by omega]; exact hq))
        · refine aw_iload_n G dX10_formFault_27 rfl ?_
          refine aw_bipush G dX10_formFault_28 (k := ?_)
          refine aw_icmp_eq (tgt := 47) G dX10_formFault_30 (by decide) (by first | omega | exact b01_R _ | exact bP_R _) (by first | omega | exact b01_R _ | exact bP_R _) (fun c30 => ?_) (fun c30 => ?_)
          · refine aw_iinc_1 G dX10_formFault_47 rfl (hc := by first | rfl | assumption) (k := ?_)
            refine aw_iconst G dX10_formFault_50 ?_
            refine aw_istore_3 G dX10_formFault_51 (hc := by first | rfl | assumption) (k := ?_)
            first
              | (exfalso; omega)
              | (have hfi := hf i (by omega) (by omega)
                 have hdi : 1 ≤ dgs (σ 84 i) := by unfold dgs; simp only [*]; simp
                 rw [show (σ 75 12 - i).toNat = (σ 75 12 - (i + 1)).toNat + 1 by omega, mis_s, if_pos rfl, if_neg (by omega)] at hq
                 exact inner 4 (σ 84 i) 0 (i + 1) ⟨hdi, by omega⟩ (by omega) (by have := dgs_R (σ 84 i); omega) (by omega) (by rw [show dgs (σ 84 i) - 0 = dgs (σ 84 i) by omega]; exact hq))
          · refine aw_iload_n G dX10_formFault_33 rfl ?_
            refine aw_bipush G dX10_formFault_34 (k := ?_)
            refine aw_icmp_eq (tgt := 47) G dX10_formFault_36 (by decide) (by first | omega | exact b01_R _ | exact bP_R _) (by first | omega | exact b01_R _ | exact bP_R _) (fun c36 => ?_) (fun c36 => ?_)
            · refine aw_iinc_1 G dX10_formFault_47 rfl (hc := by first | rfl | assumption) (k := ?_)
              refine aw_iconst G dX10_formFault_50 ?_
              refine aw_istore_3 G dX10_formFault_51 (hc := by first | rfl | assumption) (k := ?_)
              first
                | (exfalso; omega)
                | (have hfi := hf i (by omega) (by omega)
                   have hdi : 1 ≤ dgs (σ 84 i) := by unfold dgs; simp only [*]; simp
                   rw [show (σ 75 12 - i).toNat = (σ 75 12 - (i + 1)).toNat + 1 by omega, mis_s, if_pos rfl, if_neg (by omega)] at hq
                   exact inner 4 (σ 84 i) 0 (i + 1) ⟨hdi, by omega⟩ (by omega) (by have := dgs_R (σ 84 i); omega) (by omega) (by rw [show dgs (σ 84 i) - 0 = dgs (σ 84 i) by omega]; exact hq))
            · refine aw_iload_n G dX10_formFault_39 rfl ?_
              refine aw_bipush G dX10_formFault_40 (k := ?_)
              refine aw_icmp_eq (tgt := 47) G dX10_formFault_42 (by decide) (by first | omega | exact b01_R _ | exact bP_R _) (by first | omega | exact b01_R _ | exact bP_R _) (fun c42 => ?_) (fun c42 => ?_)
              · refine aw_iinc_1 G dX10_formFault_47 rfl (hc := by first | rfl | assumption) (k := ?_)
                refine aw_iconst G dX10_formFault_50 ?_
                refine aw_istore_3 G dX10_formFault_51 (hc := by first | rfl | assumption) (k := ?_)
                first
                  | (exfalso; omega)
                  | (have hfi := hf i (by omega) (by omega)
                     have hdi : 1 ≤ dgs (σ 84 i) := by unfold dgs; simp only [*]; simp
                     rw [show (σ 75 12 - i).toNat = (σ 75 12 - (i + 1)).toNat + 1 by omega, mis_s, if_pos rfl, if_neg (by omega)] at hq
                     exact inner 4 (σ 84 i) 0 (i + 1) ⟨hdi, by omega⟩ (by omega) (by have := dgs_R (σ 84 i); omega) (by omega) (by rw [show dgs (σ 84 i) - 0 = dgs (σ 84 i) by omega]; exact hq))
              · refine aw_iload_n G dX10_formFault_45 rfl ?_
                exact aw_iret G T dX10_formFault_46 (by
          refine ⟨?_, rfl⟩
          rw [← hq]
          first
            | (rw [show (σ 75 12 - i).toNat = (σ 75 12 - (i + 1)).toNat + 1 by omega, mis_s, if_pos rfl, if_pos (by have := hfi (by omega); unfold dgs; simp only [*]; simp)])
            | (rw [show (σ 75 12 - i).toNat = 0 by omega]; unfold mis; rw [if_neg (by omega)]; omega))
  refine aw_iconst G dX10_formFault_0 ?_
  refine aw_istore_1 G dX10_formFault_1 (hc := by first | rfl | assumption) (k := ?_)
  exact loop ((σ 75 12).toNat + 1) 0 _ _ (by omega) (by omega) rfl rfl (by rw [show σ 75 12 - 0 = σ 75 12 by omega]; rfl)
set_option maxHeartbeats 4000000 in
theorem c_X10_isDone {V : Wd} {σ : St} {i : Int} (hn : NetOK σ 75) (hi : 0 ≤ i ∧ i + dgs (σ 84 i) + 2 ≤ 72) (hc : inR (σ 84 i)) (hd : 1 ≤ dgs (σ 84 i)) (hg : digP (σ 84) i (dgs (σ 84 i))) : Ct V yX10_isDone cX10_isDone 2 (some .boolean) 2 43 [rv V 75, iv i] σ (PI (fun r τ => (r = 1 ∧ stm σ 75 (σ 84) i = some τ) ∨ (r = 0 ∧ stm σ 75 (σ 84) i = none ∧ τ = σ))) := by
  refine ct_of (by decide) (Nat.le_of_ble_eq_true rfl) (fun X G T => ?_)
  have G : Gd X V cX10_isDone RX10 2 2 43 := G
  show AW X V σ 0 [] [some (rv V 75), some (iv i)]
  obtain ⟨n1, n2, n3, n4, n5, n6⟩ := id hn
  refine aw_aload_n G dX10_isDone_0 rfl ?_
  refine gf_X10_38 G dX10_isDone_1 (kk := ?_)
  refine aw_iload_n G dX10_isDone_4 rfl ?_
  refine aw_iaload G dX10_isDone_5 (by first | decide | assumption | omega) (by first | rfl | assumption) (by first | decide | assumption) (by omega) ?_
  by_cases s6_0 : σ 84 i = 102
  · refine aw_lsw (off := 148) (tgt := 154) G dX10_isDone_6 (by first | omega | exact b01_R _ | exact bP_R _) (by decide) (by rw [s6_0]; rfl) (by decide) ?_
    have hd2 : dgs (σ 84 i) = 2 := by rw [s6_0]; rfl
    have d1 := hg 1 (by omega) (by omega)
    have d2 := hg 2 (by omega) (by omega)
    refine aw_aload_n G dX10_isDone_154 rfl ?_
    refine aw_aload_n G dX10_isDone_155 rfl ?_
    refine aw_iload_n G dX10_isDone_156 rfl ?_
    refine aw_iconst G dX10_isDone_157 ?_
    refine aw_iadd G dX10_isDone_158 ?_
    refine cv_X10_97 G dX10_isDone_159 (c_X10_digitAt (by omega)) (kk := fun r159 t159 h159 => ?_)
    obtain ⟨rfl, ee159⟩ := h159
    obtain rfl := ee159.symm
    refine cv_X10_108 G dX10_isDone_162 (c_X10_isLine (by first | assumption | omega) (by omega)) (kk := fun r162 t162 h162 => ?_)
    obtain ⟨rfl, ee162⟩ := h162
    obtain rfl := ee162.symm
    refine aw_if_ne (tgt := 170) G dX10_isDone_165 (by decide) (by first | omega | exact b01_R _ | exact bP_R _) (fun c165 => ?_) (fun c165 => ?_)
    · try simp only [b01_0, b01_n, bP_0, bP_n, Classical.not_not] at c165
      refine aw_aload_n G dX10_isDone_170 rfl ?_
      refine gf_X10_17 G dX10_isDone_171 (kk := ?_)
      refine aw_aload_n G dX10_isDone_174 rfl ?_
      refine aw_iload_n G dX10_isDone_175 rfl ?_
      refine aw_iconst G dX10_isDone_176 ?_
      refine aw_iadd G dX10_isDone_177 ?_
      refine cv_X10_97 G dX10_isDone_178 (c_X10_digitAt (by omega)) (kk := fun r178 t178 h178 => ?_)
      obtain ⟨rfl, ee178⟩ := h178
      obtain rfl := ee178.symm
      refine aw_aload_n G dX10_isDone_181 rfl ?_
      refine aw_iload_n G dX10_isDone_182 rfl ?_
      refine aw_iconst G dX10_isDone_183 ?_
      refine aw_iadd G dX10_isDone_184 ?_
      refine cv_X10_97 G dX10_isDone_185 (c_X10_digitAt (by omega)) (kk := fun r185 t185 h185 => ?_)
      obtain ⟨rfl, ee185⟩ := h185
      obtain rfl := ee185.symm
      refine aw_iastore G dX10_isDone_188 (by first | decide | assumption | omega) (by first | rfl | assumption) (by first | decide | assumption) (by omega) ?_
      refine aw_iconst G dX10_isDone_189 ?_
      exact aw_zret G T dX10_isDone_190 (by first | exact Or.inl rfl | exact Or.inr rfl | assumption) (Or.inl ⟨rfl, by unfold stm; rw [if_neg (by omega), if_neg (by omega), if_pos s6_0, if_pos (by omega)]⟩)
    · try simp only [b01_0, b01_n, bP_0, bP_n, Classical.not_not] at c165
      refine aw_iconst G dX10_isDone_168 ?_
      exact aw_zret G T dX10_isDone_169 (by first | exact Or.inl rfl | exact Or.inr rfl | assumption) (by first | exact Or.inr ⟨rfl, by unfold stm; rw [if_neg (by omega), if_neg (by omega), if_pos s6_0, if_neg (by omega)], rfl⟩ | exact Or.inr ⟨rfl, by unfold stm; rw [if_neg (by omega), if_neg (by omega), if_pos s6_0, if_neg (by omega)]; omega, rfl⟩)
  by_cases s6_1 : σ 84 i = 108
  · refine aw_lsw (off := 70) (tgt := 76) G dX10_isDone_6 (by first | omega | exact b01_R _ | exact bP_R _) (by decide) (by rw [s6_1]; rfl) (by decide) ?_
    have hd2 : dgs (σ 84 i) = 3 := by rw [s6_1]; rfl
    have d1 := hg 1 (by omega) (by omega)
    have d2 := hg 2 (by omega) (by omega)
    have d3 := hg 3 (by omega) (by omega)
    refine aw_aload_n G dX10_isDone_76 rfl ?_
    refine aw_iload_n G dX10_isDone_77 rfl ?_
    refine aw_iconst G dX10_isDone_78 ?_
    refine aw_iadd G dX10_isDone_79 ?_
    refine cv_X10_97 G dX10_isDone_80 (c_X10_digitAt (by omega)) (kk := fun r80 t80 h80 => ?_)
    obtain ⟨rfl, ee80⟩ := h80
    obtain rfl := ee80.symm
    refine aw_bipush G dX10_isDone_83 (k := ?_)
    refine aw_icmp_ge (tgt := 125) G dX10_isDone_85 (by decide) (by first | omega | exact b01_R _ | exact bP_R _) (by first | omega | exact b01_R _ | exact bP_R _) (fun c85 => ?_) (fun c85 => ?_)
    · refine aw_iconst G dX10_isDone_125 ?_
      exact aw_zret G T dX10_isDone_126 (by first | exact Or.inl rfl | exact Or.inr rfl | assumption) (by first | exact Or.inr ⟨rfl, by unfold stm; rw [if_neg (by omega), if_pos s6_1, if_neg (by omega)], rfl⟩ | exact Or.inr ⟨rfl, by unfold stm; rw [if_neg (by omega), if_pos s6_1, if_neg (by omega)]; omega, rfl⟩)
    · refine aw_aload_n G dX10_isDone_88 rfl ?_
      refine aw_aload_n G dX10_isDone_89 rfl ?_
      refine aw_iload_n G dX10_isDone_90 rfl ?_
      refine aw_iconst G dX10_isDone_91 ?_
      refine aw_iadd G dX10_isDone_92 ?_
      refine cv_X10_97 G dX10_isDone_93 (c_X10_digitAt (by omega)) (kk := fun r93 t93 h93 => ?_)
      obtain ⟨rfl, ee93⟩ := h93
      obtain rfl := ee93.symm
      refine cv_X10_100 G dX10_isDone_96 (c_X10_isPoint (by first | assumption | omega) (by omega)) (kk := fun r96 t96 h96 => ?_)
      obtain ⟨rfl, ee96⟩ := h96
      obtain rfl := ee96.symm
      refine aw_if_eq (tgt := 125) G dX10_isDone_99 (by decide) (by first | omega | exact b01_R _ | exact bP_R _) (fun c99 => ?_) (fun c99 => ?_)
      · try simp only [b01_0, b01_n, bP_0, bP_n, Classical.not_not] at c99
        refine aw_iconst G dX10_isDone_125 ?_
        exact aw_zret G T dX10_isDone_126 (by first | exact Or.inl rfl | exact Or.inr rfl | assumption) (by first | exact Or.inr ⟨rfl, by unfold stm; rw [if_neg (by omega), if_pos s6_1, if_neg (by omega)], rfl⟩ | exact Or.inr ⟨rfl, by unfold stm; rw [if_neg (by omega), if_pos s6_1, if_neg (by omega)]; omega, rfl⟩)
      · try simp only [b01_0, b01_n, bP_0, bP_n, Classical.not_not] at c99
        refine aw_aload_n G dX10_isDone_102 rfl ?_
        refine aw_aload_n G dX10_isDone_103 rfl ?_
        refine aw_iload_n G dX10_isDone_104 rfl ?_
        refine aw_iconst G dX10_isDone_105 ?_
        refine aw_iadd G dX10_isDone_106 ?_
        refine cv_X10_97 G dX10_isDone_107 (c_X10_digitAt (by omega)) (kk := fun r107 t107 h107 => ?_)
        obtain ⟨rfl, ee107⟩ := h107
        obtain rfl := ee107.symm
        refine cv_X10_100 G dX10_isDone_110 (c_X10_isPoint (by first | assumption | omega) (by omega)) (kk := fun r110 t110 h110 => ?_)
        obtain ⟨rfl, ee110⟩ := h110
        obtain rfl := ee110.symm
        refine aw_if_eq (tgt := 125) G dX10_isDone_113 (by decide) (by first | omega | exact b01_R _ | exact bP_R _) (fun c113 => ?_) (fun c113 => ?_)
        · try simp only [b01_0, b01_n, bP_0, bP_n, Classical.not_not] at c113
          refine aw_iconst G dX10_isDone_125 ?_
          exact aw_zret G T dX10_isDone_126 (by first | exact Or.inl rfl | exact Or.inr rfl | assumption) (by first | exact Or.inr ⟨rfl, by unfold stm; rw [if_neg (by omega), if_pos s6_1, if_neg (by omega)], rfl⟩ | exact Or.inr ⟨rfl, by unfold stm; rw [if_neg (by omega), if_pos s6_1, if_neg (by omega)]; omega, rfl⟩)
        · try simp only [b01_0, b01_n, bP_0, bP_n, Classical.not_not] at c113
          refine aw_aload_n G dX10_isDone_116 rfl ?_
          refine gf_X10_82 G dX10_isDone_117 (kk := ?_)
          refine aw_bipush G dX10_isDone_120 (k := ?_)
          refine aw_icmp_ne (tgt := 127) G dX10_isDone_122 (by decide) (by first | omega | exact b01_R _ | exact bP_R _) (by first | omega | exact b01_R _ | exact bP_R _) (fun c122 => ?_) (fun c122 => ?_)
          · refine aw_aload_n G dX10_isDone_127 rfl ?_
            refine aw_aload_n G dX10_isDone_128 rfl ?_
            refine aw_iload_n G dX10_isDone_129 rfl ?_
            refine aw_iconst G dX10_isDone_130 ?_
            refine aw_iadd G dX10_isDone_131 ?_
            refine cv_X10_97 G dX10_isDone_132 (c_X10_digitAt (by omega)) (kk := fun r132 t132 h132 => ?_)
            obtain ⟨rfl, ee132⟩ := h132
            obtain rfl := ee132.symm
            refine aw_aload_n G dX10_isDone_135 rfl ?_
            refine aw_iload_n G dX10_isDone_136 rfl ?_
            refine aw_iconst G dX10_isDone_137 ?_
            refine aw_iadd G dX10_isDone_138 ?_
            refine cv_X10_97 G dX10_isDone_139 (c_X10_digitAt (by omega)) (kk := fun r139 t139 h139 => ?_)
            obtain ⟨rfl, ee139⟩ := h139
            obtain rfl := ee139.symm
            refine aw_aload_n G dX10_isDone_142 rfl ?_
            refine aw_iload_n G dX10_isDone_143 rfl ?_
            refine aw_iconst G dX10_isDone_144 ?_
            refine aw_iadd G dX10_isDone_145 ?_
            refine cv_X10_97 G dX10_isDone_146 (c_X10_digitAt (by omega)) (kk := fun r146 t146 h146 => ?_)
            obtain ⟨rfl, ee146⟩ := h146
            obtain rfl := ee146.symm
            refine cv_X10_104 G dX10_isDone_149 (c_X10_comes (by omega)) (kk := fun t149 h149 => ?_)
            obtain rfl := h149.symm
            refine aw_iconst G dX10_isDone_152 ?_
            exact aw_zret G T dX10_isDone_153 (by first | exact Or.inl rfl | exact Or.inr rfl | assumption) (Or.inl ⟨rfl, by unfold stm; rw [if_neg (by omega), if_pos s6_1, if_pos (by omega)]⟩)
          · refine aw_iconst G dX10_isDone_125 ?_
            exact aw_zret G T dX10_isDone_126 (by first | exact Or.inl rfl | exact Or.inr rfl | assumption) (by first | exact Or.inr ⟨rfl, by unfold stm; rw [if_neg (by omega), if_pos s6_1, if_neg (by omega)], rfl⟩ | exact Or.inr ⟨rfl, by unfold stm; rw [if_neg (by omega), if_pos s6_1, if_neg (by omega)]; omega, rfl⟩)
  by_cases s6_2 : σ 84 i = 110
  · refine aw_lsw (off := 34) (tgt := 40) G dX10_isDone_6 (by first | omega | exact b01_R _ | exact bP_R _) (by decide) (by rw [s6_2]; rfl) (by decide) ?_
    have hd2 : dgs (σ 84 i) = 1 := by rw [s6_2]; rfl
    have d1 := hg 1 (by omega) (by omega)
    refine aw_aload_n G dX10_isDone_40 rfl ?_
    refine aw_iload_n G dX10_isDone_41 rfl ?_
    refine aw_iconst G dX10_isDone_42 ?_
    refine aw_iadd G dX10_isDone_43 ?_
    refine cv_X10_97 G dX10_isDone_44 (c_X10_digitAt (by omega)) (kk := fun r44 t44 h44 => ?_)
    obtain ⟨rfl, ee44⟩ := h44
    obtain rfl := ee44.symm
    refine aw_iconst G dX10_isDone_47 ?_
    refine aw_bipush G dX10_isDone_48 (k := ?_)
    refine cs_X10_78 G dX10_isDone_50 (c_X10_in (by first | assumption | omega) (by first | assumption | omega) (by first | assumption | omega)) (kk := fun r50 t50 h50 => ?_)
    obtain ⟨rfl, ee50⟩ := h50
    obtain rfl := ee50.symm
    refine aw_if_ne (tgt := 58) G dX10_isDone_53 (by decide) (by first | omega | exact b01_R _ | exact bP_R _) (fun c53 => ?_) (fun c53 => ?_)
    · try simp only [b01_0, b01_n, bP_0, bP_n, Classical.not_not] at c53
      refine aw_aload_n G dX10_isDone_58 rfl ?_
      refine aw_aload_n G dX10_isDone_59 rfl ?_
      refine aw_iload_n G dX10_isDone_60 rfl ?_
      refine aw_iconst G dX10_isDone_61 ?_
      refine aw_iadd G dX10_isDone_62 ?_
      refine cv_X10_97 G dX10_isDone_63 (c_X10_digitAt (by omega)) (kk := fun r63 t63 h63 => ?_)
      obtain ⟨rfl, ee63⟩ := h63
      obtain rfl := ee63.symm
      refine pf_X10_7 G dX10_isDone_66 (kk := ?_)
      refine aw_aload_n G dX10_isDone_69 rfl ?_
      refine aw_iconst G dX10_isDone_70 ?_
      refine pf_X10_82 G dX10_isDone_71 (kk := ?_)
      refine aw_iconst G dX10_isDone_74 ?_
      exact aw_zret G T dX10_isDone_75 (by first | exact Or.inl rfl | exact Or.inr rfl | assumption) (Or.inl ⟨rfl, by unfold stm; rw [if_pos s6_2, if_pos (by omega)]⟩)
    · try simp only [b01_0, b01_n, bP_0, bP_n, Classical.not_not] at c53
      refine aw_iconst G dX10_isDone_56 ?_
      exact aw_zret G T dX10_isDone_57 (by first | exact Or.inl rfl | exact Or.inr rfl | assumption) (by first | exact Or.inr ⟨rfl, by unfold stm; rw [if_pos s6_2, if_neg (by omega)], rfl⟩ | exact Or.inr ⟨rfl, by unfold stm; rw [if_pos s6_2, if_neg (by omega)]; omega, rfl⟩)
  refine aw_lsw (off := 185) (tgt := 191) G dX10_isDone_6 (by first | omega | exact b01_R _ | exact bP_R _) (by decide) (by simp [Op.lookupswitch.offset, Ne.symm s6_0, s6_0, Ne.symm s6_1, s6_1, Ne.symm s6_2, s6_2]) (by decide) ?_
  have hd2 : dgs (σ 84 i) = 3 := by
    unfold dgs at hd ⊢
    rw [if_neg s6_2, if_neg s6_0, if_neg s6_1] at hd ⊢
    by_cases z : σ 84 i = 118
    · rw [if_pos z]
    · rw [if_neg z] at hd; omega
  have d1 := hg 1 (by omega) (by omega)
  have d2 := hg 2 (by omega) (by omega)
  have d3 := hg 3 (by omega) (by omega)
  refine aw_aload_n G dX10_isDone_191 rfl ?_
  refine aw_aload_n G dX10_isDone_192 rfl ?_
  refine aw_iload_n G dX10_isDone_193 rfl ?_
  refine aw_iconst G dX10_isDone_194 ?_
  refine aw_iadd G dX10_isDone_195 ?_
  refine cv_X10_97 G dX10_isDone_196 (c_X10_digitAt (by omega)) (kk := fun r196 t196 h196 => ?_)
  obtain ⟨rfl, ee196⟩ := h196
  obtain rfl := ee196.symm
  refine cv_X10_108 G dX10_isDone_199 (c_X10_isLine (by first | assumption | omega) (by omega)) (kk := fun r199 t199 h199 => ?_)
  obtain ⟨rfl, ee199⟩ := h199
  obtain rfl := ee199.symm
  refine aw_if_ne (tgt := 207) G dX10_isDone_202 (by decide) (by first | omega | exact b01_R _ | exact bP_R _) (fun c202 => ?_) (fun c202 => ?_)
  · try simp only [b01_0, b01_n, bP_0, bP_n, Classical.not_not] at c202
    refine aw_aload_n G dX10_isDone_207 rfl ?_
    refine gf_X10_26 G dX10_isDone_208 (kk := ?_)
    refine aw_aload_n G dX10_isDone_211 rfl ?_
    refine aw_iload_n G dX10_isDone_212 rfl ?_
    refine aw_iconst G dX10_isDone_213 ?_
    refine aw_iadd G dX10_isDone_214 ?_
    refine cv_X10_97 G dX10_isDone_215 (c_X10_digitAt (by omega)) (kk := fun r215 t215 h215 => ?_)
    obtain ⟨rfl, ee215⟩ := h215
    obtain rfl := ee215.symm
    refine aw_bipush G dX10_isDone_218 (k := ?_)
    refine aw_aload_n G dX10_isDone_220 rfl ?_
    refine aw_iload_n G dX10_isDone_221 rfl ?_
    refine aw_iconst G dX10_isDone_222 ?_
    refine aw_iadd G dX10_isDone_223 ?_
    refine cv_X10_97 G dX10_isDone_224 (c_X10_digitAt (by omega)) (kk := fun r224 t224 h224 => ?_)
    obtain ⟨rfl, ee224⟩ := h224
    obtain rfl := ee224.symm
    refine aw_imul G dX10_isDone_227 ?_
    refine aw_aload_n G dX10_isDone_228 rfl ?_
    refine aw_iload_n G dX10_isDone_229 rfl ?_
    refine aw_iconst G dX10_isDone_230 ?_
    refine aw_iadd G dX10_isDone_231 ?_
    refine cv_X10_97 G dX10_isDone_232 (c_X10_digitAt (by omega)) (kk := fun r232 t232 h232 => ?_)
    obtain ⟨rfl, ee232⟩ := h232
    obtain rfl := ee232.symm
    refine aw_iadd G dX10_isDone_235 ?_
    refine aw_iastore G dX10_isDone_236 (by first | decide | assumption | omega) (by first | rfl | assumption) (by first | decide | assumption) (by omega) ?_
    refine aw_iconst G dX10_isDone_237 ?_
    exact aw_zret G T dX10_isDone_238 (by first | exact Or.inl rfl | exact Or.inr rfl | assumption) (Or.inl ⟨rfl, by unfold stm; rw [if_neg s6_2, if_neg s6_1, if_neg s6_0, if_pos (by omega)]⟩)
  · try simp only [b01_0, b01_n, bP_0, bP_n, Classical.not_not] at c202
    refine aw_iconst G dX10_isDone_205 ?_
    exact aw_zret G T dX10_isDone_206 (by first | exact Or.inl rfl | exact Or.inr rfl | assumption) (by first | exact Or.inr ⟨rfl, by unfold stm; rw [if_neg s6_2, if_neg s6_1, if_neg s6_0, if_neg (by omega)], rfl⟩ | exact Or.inr ⟨rfl, by unfold stm; rw [if_neg s6_2, if_neg s6_1, if_neg s6_0, if_neg (by omega)]; omega, rfl⟩)

theorem backR_to {σ τ : St} (h : TO 75 (keepR σ 96) τ) : Only mScr σ (backR τ 96) := by
  intro k hk
  have k96 : k ≠ 96 := fun e => hk (by rw [e]; decide)
  have e96 : τ 96 = keepR σ 96 96 := h.1 96 (by omega)
  funext j
  unfold backR
  rw [e96]
  have o : ∀ k' j', k' ≠ 96 → keepR σ 96 k' j' = σ k' j' := fun k' j' q => by unfold keepR; rw [if_neg q]
  by_cases c1 : k = 76 ∧ 0 ≤ j ∧ j < 8
  · rw [if_pos c1]
    unfold keepR
    rw [if_pos rfl, if_pos (by omega), c1.1]
  rw [if_neg c1]
  by_cases c2 : k = 77 ∧ 0 ≤ j ∧ j < 8
  · rw [if_pos c2]
    unfold keepR
    rw [if_pos rfl, if_neg (by omega), if_pos (by omega), c2.1, show 8 + j - 8 = j by omega]
  rw [if_neg c2]
  by_cases c3 : k = 78 ∧ 0 ≤ j ∧ j < 8
  · rw [if_pos c3]
    unfold keepR
    rw [if_pos rfl, if_neg (by omega), if_neg (by omega), if_pos (by omega), c3.1, show 16 + j - 16 = j by omega]
  rw [if_neg c3]
  by_cases c4 : k = 79 ∧ 0 ≤ j ∧ j < 8
  · rw [if_pos c4]
    unfold keepR
    rw [if_pos rfl, if_neg (by omega), if_neg (by omega), if_neg (by omega), if_pos (by omega), c4.1, show 24 + j - 24 = j by omega]
  rw [if_neg c4]
  by_cases c5 : k = 80 ∧ 0 ≤ j ∧ j < 8
  · rw [if_pos c5]
    unfold keepR
    rw [if_pos rfl, if_neg (by omega), if_neg (by omega), if_neg (by omega), if_neg (by omega), if_pos (by omega), c5.1, show 32 + j - 32 = j by omega]
  rw [if_neg c5]
  by_cases c6 : k = 75 ∧ j = 0
  · rw [if_pos c6, c6.1, c6.2]
    rfl
  rw [if_neg c6]
  by_cases c7 : k = 75 ∧ j = 1
  · rw [if_pos c7, c7.1, c7.2]
    rfl
  rw [if_neg c7]
  by_cases k75 : k = 75
  · rw [k75, h.2.1 j (by omega) (by omega), o _ _ (by decide)]
  by_cases kr : 76 ≤ k ∧ k ≤ 80
  · rw [h.2.2 k (by omega) (by omega) j (by omega), o _ _ k96]
  · rw [h.1 k (by omega), o _ _ k96]
set_option maxHeartbeats 4000000 in
theorem c_X10_text {V : Wd} {σ : St}  (hk : OK σ) : Ct V yX10_text cX10_text 5 (some .int) 3 64 [rv V 75] σ (PI (fun r τ => r = an_text σ ∧ ME τ (nx_text σ))) := by
  refine ct_of (by decide) (Nat.le_of_ble_eq_true rfl) (fun X G T => ?_)
  have G : Gd X V cX10_text RX10 5 3 64 := G
  show AW X V σ 0 [] [some (rv V 75), none, none, none, none]
  obtain ⟨⟨n1, n2, n3, n4, n5, n6⟩, u1, l1, l2, i1, s1, w1⟩ := id hk
  have c84 : keepR (up σ 75 12 0) 96 84 = σ 84 := by
    funext j
    unfold keepR
    rw [if_neg (by decide), up_o (by decide)]
  have hT0 : ME (keepR (up σ 75 12 0) 96) (up σ 75 12 0) := ME.only fun k hk => by
    funext j
    unfold keepR
    rw [if_neg (fun e => hk (by rw [e]; decide))]
  have hN0 : NetOK (keepR (up σ 75 12 0) 96) 75 := ⟨n1, n2, n3, n4, n5, n6⟩
  have loop : ∀ (n0 : Nat) (i : Int) (n : Int) (τ : St) (k : Nat), (misF σ = -1) → (0 ≤ i ∧ i ≤ σ 75 12) → (σ 75 12 < i + (n0 : Int)) → (0 ≤ n ∧ n ≤ i) → (mis (σ 84) (σ 75 12) (σ 75 12 - i).toNat i (-1) = -1) → (TO 75 (keepR (up σ 75 12 0) 96) τ) → (NetOK τ 75) → (σ 75 12 ≤ i + k) → (tellF 75 (σ 84) (σ 75 12) k i n τ = tellF 75 (σ 84) (σ 75 12) (σ 75 12).toNat 0 0 (keepR (up σ 75 12 0) 96)) → AW X V (τ) 38 [] [some (rv V 75), some (iv (misF σ)), some (iv (σ 75 12)), some (iv n), some (iv i)] := by
    intro n0
    induction n0 with
    | zero =>
      intro i n τ k hM h0 h1 hn2 hv hT hN hkk hq
      exfalso
      omega
    | succ n0 ih =>
      intro i n τ k hM h0 h1 hn2 hv hT hN hkk hq
      have e84 : τ 84 = σ 84 := (hT.1 84 (by omega)).trans c84
      refine aw_iload G dX10_text_38 rfl ?_
      refine aw_iload_n G dX10_text_40 rfl ?_
      refine aw_icmp_ge (tgt := 91) G dX10_text_41 (by decide) (by first | omega | exact b01_R _ | exact bP_R _) (by first | omega | exact b01_R _ | exact bP_R _) (fun c41 => ?_) (fun c41 => ?_)
      · refine aw_aload_n G dX10_text_91 rfl ?_
        refine aw_iconst G dX10_text_92 ?_
        refine pf_X10_125 G dX10_text_93 (kk := ?_)
        refine aw_iload_n G dX10_text_96 rfl ?_
        exact aw_iret G T dX10_text_97 (by
          have hz := hq
          rw [show tellF 75 (σ 84) (σ 75 12) k i n τ = (n, τ) by
            cases k with
            | zero => rfl
            | succ k' => rw [tellF_s, if_neg (by omega)]] at hz
          have hy := tell_me (f := σ 84) (m := σ 75 12) (σ 75 12).toNat 0 0 _ _ hT0
          rw [← hz] at hy
          refine ⟨by unfold an_text; rw [if_pos hM]; exact hy.1, ?_⟩
          unfold nx_text
          rw [if_pos hM, if_pos (by unfold tellR; rw [← hy.1]; dsimp only; omega)]
          exact hy.2.up (Or.inr ⟨rfl, Or.inr (Or.inr (Or.inl rfl))⟩))
      · obtain ⟨s1, s2, s3, s4, s5⟩ := mis_st ⟨h0.1, by omega⟩ hv
        have hfi := l2 i h0.1 (by omega)
        refine aw_aload_n G dX10_text_44 rfl ?_
        refine aw_iload G dX10_text_45 rfl ?_
        refine cv_X10_119 G dX10_text_47 (c_X10_isDone hN (by rw [e84]; omega) (by rw [e84]; omega) (by rw [e84]; exact s1) (by rw [e84]; exact s4)) (kk := fun r47 t47 h47 => ?_)
        refine aw_if_ne (tgt := 68) G dX10_text_50 (by decide) (by rcases h47 with q | q <;> omega) (fun c50 => ?_) (fun c50 => ?_)
        · have e84b : t47 84 = σ 84 := by
            rcases h47 with ⟨q1, q2⟩ | ⟨q1, q2, q3⟩
            · rw [e84] at q2
              exact ((stm_ok hN s1 s4 q2).2.1 84 (by omega)).trans e84
            · rw [q3, e84]
          have hfg := fgs_d s1
          refine aw_iload G dX10_text_68 rfl ?_
          refine aw_aload_n G dX10_text_70 rfl ?_
          refine gf_X10_38 G dX10_text_71 (kk := ?_)
          refine aw_iload G dX10_text_74 rfl ?_
          refine aw_iaload G dX10_text_76 (by first | decide | assumption | omega) (by first | rfl | assumption) (by first | decide | assumption) (by omega) ?_
          rw [e84b]
          refine cs_X10_94 G dX10_text_77 (c_X10_figuresOf (by omega)) (kk := fun r77 t77 h77 => ?_)
          obtain ⟨rfl, ee77⟩ := h77
          obtain rfl := ee77.symm
          rw [hfg]
          refine aw_iconst G dX10_text_80 ?_
          refine aw_iadd G dX10_text_81 ?_
          refine aw_iadd G dX10_text_82 ?_
          rw [show i + (dgs (σ 84 i) + 2) = i + dgs (σ 84 i) + 2 by omega]
          refine aw_istore_4 G dX10_text_83 (hc := by first | rfl | assumption) (k := ?_)
          refine aw_iinc_3 G dX10_text_85 rfl (hc := by first | rfl | assumption) (k := ?_)
          refine aw_goto (tgt := 38) G dX10_text_88 (by decide) ?_
          rcases h47 with ⟨q1, q2⟩ | ⟨q1, q2, q3⟩
          · rw [e84] at q2
            obtain ⟨k1, k2⟩ := stm_ok hN s1 s4 q2
            obtain ⟨k', rfl⟩ : ∃ k', k = k' + 1 := ⟨k - 1, by omega⟩
            refine ih (i + dgs (σ 84 i) + 2) (n + 1) t47 k' hM (by omega) (by omega) (by omega) s5 (hT.tr k2) k1 (by omega) ?_
            rw [← hq, tellF_s, if_pos (by omega), q2]
          · exact absurd q1 c50
        · refine aw_aload_n G dX10_text_53 rfl ?_
          refine aw_aload_n G dX10_text_54 rfl ?_
          refine gf_X10_75 G dX10_text_55 (kk := ?_)
          refine cv_X10_122 G dX10_text_58 (c_X10_laysBack (by decide)) (kk := fun t58 h58 => ?_)
          obtain rfl := h58.symm
          refine aw_sipush G dX10_text_61 (k := ?_)
          refine aw_iload G dX10_text_64 rfl ?_
          refine aw_isub G dX10_text_66 ?_
          exact aw_iret G T dX10_text_67 (by
          rcases h47 with ⟨q1, q2⟩ | ⟨q1, q2, q3⟩
          · omega
          · rw [e84] at q2
            obtain ⟨k', rfl⟩ : ∃ k', k = k' + 1 := ⟨k - 1, by omega⟩
            have hz := hq
            rw [tellF_s, if_pos (by omega), q2] at hz
            dsimp only at hz
            have hy := tell_me (f := σ 84) (m := σ 75 12) (σ 75 12).toNat 0 0 _ _ hT0
            rw [← hz] at hy
            refine ⟨by unfold an_text; rw [if_pos hM]; exact hy.1, ?_⟩
            unfold nx_text
            rw [if_pos hM, if_neg (by unfold tellR; rw [← hy.1]; dsimp only; omega), q3]
            exact ME.only (backR_to hT))
  refine aw_aload_n G dX10_text_0 rfl ?_
  refine cv_X10_111 G dX10_text_1 (c_X10_formFault l1 l2) (kk := fun r1 t1 h1 => ?_)
  obtain ⟨rfl, ee1⟩ := h1
  obtain rfl := ee1.symm
  refine aw_istore_1 G dX10_text_4 (hc := by first | rfl | assumption) (k := ?_)
  have hmr : -1 ≤ misF σ ∧ misF σ ≤ 72 := by
    have := mis_R (σ 84) (σ 75 12) (σ 75 12).toNat 0 (-1) (by omega) (by omega)
    unfold misF
    omega
  refine aw_aload_n G dX10_text_5 rfl ?_
  refine gf_X10_91 G dX10_text_6 (kk := ?_)
  refine aw_istore_2 G dX10_text_9 (hc := by first | rfl | assumption) (k := ?_)
  refine aw_aload_n G dX10_text_10 rfl ?_
  refine aw_iconst G dX10_text_11 ?_
  refine pf_X10_91 G dX10_text_12 (kk := ?_)
  refine aw_iload_n G dX10_text_15 rfl ?_
  refine aw_if_lt (tgt := 25) G dX10_text_16 (by decide) (by first | omega | exact b01_R _ | exact bP_R _) (fun c16 => ?_) (fun c16 => ?_)
  · refine aw_aload_n G dX10_text_25 rfl ?_
    refine aw_aload_n G dX10_text_26 rfl ?_
    refine gf_X10_75 G dX10_text_27 (kk := ?_)
    refine cv_X10_115 G dX10_text_30 (c_X10_keeps (by decide)) (kk := fun t30 h30 => ?_)
    obtain rfl := h30.symm
    refine aw_iconst G dX10_text_33 ?_
    refine aw_istore_3 G dX10_text_34 (hc := by first | rfl | assumption) (k := ?_)
    refine aw_iconst G dX10_text_35 ?_
    refine aw_istore_4 G dX10_text_36 (hc := by first | rfl | assumption) (k := ?_)
    exact loop ((σ 75 12).toNat + 1) 0 0 _ (σ 75 12).toNat (by omega) (by omega) (by omega) (by omega) (by rw [show σ 75 12 - 0 = σ 75 12 by omega]; exact (show misF σ = -1 by omega)) (TO.rf 75 _) hN0 (by omega) rfl
  · refine aw_sipush G dX10_text_19 (k := ?_)
    refine aw_iload_n G dX10_text_22 rfl ?_
    refine aw_isub G dX10_text_23 ?_
    exact aw_iret G T dX10_text_24 (⟨by unfold an_text; rw [if_neg (by omega)], by unfold nx_text; rw [if_neg (by omega)]; exact ME.rf _⟩)
