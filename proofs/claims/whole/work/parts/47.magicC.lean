set_option maxHeartbeats 4000000 in
theorem c_X7_findMagic {V : Wd} {σ : St} {r0 wi : Int} (hN : NetOK σ 1) (hr : 0 ≤ r0 ∧ r0 ≤ 6) (hw : -1 ≤ wi ∧ wi ≤ 2147483647) : Ct V yX7_findMagic cX7_findMagic 3 (some .int) 14 336 [rv V 47, iv r0, iv wi] σ (PI (fun r τ => Only thS σ τ ∧ ((r = gN (nwt σ 1) (σ 1 1) (σ 1 0) r0 ∧ (wi < 0 ∨ gN (nwt σ 1) (σ 1 1) (σ 1 0) r0 ≤ wi)) ∨ (0 ≤ wi ∧ r = wi + 1 ∧ ∃ f, gI (nwt σ 1) (σ 1 1) (σ 1 0) r0 wi = some f ∧ ∀ j : Int, 0 ≤ j → j < σ 1 1 → τ 48 j = f j)) ∧ 0 ≤ r ∧ r ≤ 16777216)) := by
  refine ct_of (by decide) (Nat.le_of_ble_eq_true rfl) (fun X G T => ?_)
  have G : Gd X V cX7_findMagic RX7 3 14 336 := G
  show AW X V σ 0 [] [some (rv V 47), some (iv r0), some (iv wi)]
  obtain ⟨n1, n2, n3, n4, n5, n6⟩ := id hN
  have hA := gF_R hr (show 0 ≤ σ 1 1 ∧ σ 1 1 ≤ 8 by omega)
  have hW := wayN_R (gQ (nwt σ 1) (σ 1 1) (σ 1 0) r0) (nxT (r0 + 1) (σ 1 1).toNat) (gF (σ 1 1) r0) (fun _ => 0)
  refine aw_aload_n G dX7_findMagic_0 rfl ?_
  refine cv_X7_56 G dX7_findMagic_1 (c_X7_begin hN) (kk := fun t1 h1 => ?_)
  obtain ⟨hT1, hLL1, h147⟩ := h1
  refine aw_aload_n G dX7_findMagic_4 rfl ?_
  refine aw_iconst G dX7_findMagic_5 ?_
  refine pf_X7_27 G dX7_findMagic_6 (kk := ?_)
  refine aw_iload_n G dX7_findMagic_9 rfl ?_
  refine aw_if_eq (tgt := 20) G dX7_findMagic_10 (by decide) (by first | omega | exact b01_R _ | exact bP_R _) (fun c10 => ?_) (fun c10 => ?_)
  · try simp only [b01_0, b01_n, bP_0, bP_n, Classical.not_not] at c10
    refine aw_aload_n G dX7_findMagic_20 rfl ?_
    refine aw_iconst G dX7_findMagic_21 ?_
    refine aw_iload_n G dX7_findMagic_22 rfl ?_
    refine aw_iload_n G dX7_findMagic_23 rfl ?_
    refine cs_X7_84 G dX7_findMagic_24 (c_X7_seekMagic hN hr hw (σ 1 1).toNat 0 0 (fun _ => 0) (by omega) (by omega) (TH_47 hT1) (hLL1.of (up_ne (by decide))) (fun _ => by omega) (fun _ _ => rfl) (up_at _ _ _ _) (by have := hW; unfold gF at this hA; omega) (fun p a b c d => by omega) (by first | exact Or.inl (by omega) | exact Or.inr c17)) (hroom := ⟨by omega, by omega⟩) (kk := fun r24 t24 h24 => ?_)
    refine aw_pop G dX7_findMagic_27 (k := ?_)
    refine aw_aload_n G dX7_findMagic_28 rfl ?_
    refine gf_X7_27 G dX7_findMagic_29 (kk := ?_)
    exact aw_iret G T dX7_findMagic_32 (by
  obtain ⟨o24, q⟩ := h24
  have oo : Only thS σ t24 := (hT1.1.up (by decide)).tr (o24.mono (by decide))
  rcases q with ⟨q1, q2, q3, q4⟩ | ⟨q1, q2, q3, q4, f, q5, q6⟩
  · have q3' : t24 47 6 = gN (nwt σ 1) (σ 1 1) (σ 1 0) r0 := by rw [q3, Int.zero_add]; rfl
    rw [Int.zero_add] at q4
    refine ⟨oo, Or.inl ⟨q3', ?_⟩, by rw [q3']; exact hW.1, by rw [q3']; unfold gN; omega⟩
    rcases q4 with q | q
    · exact Or.inl (by omega)
    · exact Or.inr q
  · refine ⟨oo, Or.inr ⟨q2, q3, f, ?_, fun j a b => (q6.2.1 j a b).1⟩, by omega, ?_⟩
    · rw [show wi - 0 = wi by omega] at q5
      exact q5
    · have h9 := wayI_n (gQ (nwt σ 1) (σ 1 1) (σ 1 0) r0) (nxT (r0 + 1) (σ 1 1).toNat) (((r0 + 1).toNat + 1) ^ (σ 1 1).toNat) (fun _ => 0) (wi - 0) (by omega)
      rw [q5] at h9
      rw [q3]
      by_cases e : wi + 1 ≤ 16777216
      · exact e
      · exact absurd (h9.mpr (by rw [Int.zero_add] at q4; omega)) (by simp))
  · try simp only [b01_0, b01_n, bP_0, bP_n, Classical.not_not] at c10
    refine aw_aload_n G dX7_findMagic_13 rfl ?_
    refine cv_X7_80 G dX7_findMagic_14 (c_X7_allPointsCount hN (hT1.1.up (by decide)) (hLL1.of (up_ne (by decide)))) (kk := fun r14 t14 h14 => ?_)
    obtain ⟨rfl, ee14⟩ := h14
    obtain rfl := ee14.symm
    refine aw_if_eq (tgt := 28) G dX7_findMagic_17 (by decide) (bP_R _) (fun c17 => ?_) (fun c17 => ?_)
    · try simp only [b01_0, b01_n, bP_0, bP_n, Classical.not_not] at c17
      refine aw_aload_n G dX7_findMagic_28 rfl ?_
      refine gf_X7_27 G dX7_findMagic_29 (kk := ?_)
      exact aw_iret G T dX7_findMagic_32 (by
  have h0 : gN (nwt σ 1) (σ 1 1) (σ 1 0) r0 = 0 := by
    refine wayN_0 _ _ _ _ fun n hn hq => c17 fun p a b => ?_
    rcases hLL1 p a (by omega) with ⟨q1, q2⟩ | ⟨q1, q2, q3⟩
    · have h1 := hq p a b
      rw [tsum_off (g := fun _ => 0) (fun l c d => Or.inl (q2 l c d)), tsum_0] at h1
      omega
    · rw [up_ne (by decide)]
      exact q1
  exact ⟨hT1.1.up (by decide), Or.inl ⟨by rw [up_at, h0], by rw [h0]; omega⟩, by rw [up_at]; omega, by rw [up_at]; omega⟩)
    · try simp only [b01_0, b01_n, bP_0, bP_n, Classical.not_not] at c17
      refine aw_aload_n G dX7_findMagic_20 rfl ?_
      refine aw_iconst G dX7_findMagic_21 ?_
      refine aw_iload_n G dX7_findMagic_22 rfl ?_
      refine aw_iload_n G dX7_findMagic_23 rfl ?_
      refine cs_X7_84 G dX7_findMagic_24 (c_X7_seekMagic hN hr hw (σ 1 1).toNat 0 0 (fun _ => 0) (by omega) (by omega) (TH_47 hT1) (hLL1.of (up_ne (by decide))) (fun _ => by omega) (fun _ _ => rfl) (up_at _ _ _ _) (by have := hW; unfold gF at this hA; omega) (fun p a b c d => by omega) (by first | exact Or.inl (by omega) | exact Or.inr c17)) (hroom := ⟨by omega, by omega⟩) (kk := fun r24 t24 h24 => ?_)
      refine aw_pop G dX7_findMagic_27 (k := ?_)
      refine aw_aload_n G dX7_findMagic_28 rfl ?_
      refine gf_X7_27 G dX7_findMagic_29 (kk := ?_)
      exact aw_iret G T dX7_findMagic_32 (by
  obtain ⟨o24, q⟩ := h24
  have oo : Only thS σ t24 := (hT1.1.up (by decide)).tr (o24.mono (by decide))
  rcases q with ⟨q1, q2, q3, q4⟩ | ⟨q1, q2, q3, q4, f, q5, q6⟩
  · have q3' : t24 47 6 = gN (nwt σ 1) (σ 1 1) (σ 1 0) r0 := by rw [q3, Int.zero_add]; rfl
    rw [Int.zero_add] at q4
    refine ⟨oo, Or.inl ⟨q3', ?_⟩, by rw [q3']; exact hW.1, by rw [q3']; unfold gN; omega⟩
    rcases q4 with q | q
    · exact Or.inl (by omega)
    · exact Or.inr q
  · refine ⟨oo, Or.inr ⟨q2, q3, f, ?_, fun j a b => (q6.2.1 j a b).1⟩, by omega, ?_⟩
    · rw [show wi - 0 = wi by omega] at q5
      exact q5
    · have h9 := wayI_n (gQ (nwt σ 1) (σ 1 1) (σ 1 0) r0) (nxT (r0 + 1) (σ 1 1).toNat) (((r0 + 1).toNat + 1) ^ (σ 1 1).toNat) (fun _ => 0) (wi - 0) (by omega)
      rw [q5] at h9
      rw [q3]
      by_cases e : wi + 1 ≤ 16777216
      · exact e
      · exact absurd (h9.mpr (by rw [Int.zero_add] at q4; omega)) (by simp))
set_option maxHeartbeats 4000000 in
theorem c_X9_magic {V : Wd} {σ : St} {α : St} {r0 i l : Int} (h1 : inR r0) (h2 : inR i) (h3 : inR l) (hk : OK α) (hX : RX α σ) : Ct V yX9_magic cX9_magic 4 (some .int) 15 358 [rv V 0, iv r0, iv i, iv l] σ (PI (fun r τ => r = an_magic α r0 i l ∧ RX (nx_magic α r0 i l) τ ∧ MS σ τ)) := by
  refine ct_of (by decide) (Nat.le_of_ble_eq_true rfl) (fun X G T => ?_)
  have G : Gd X V cX9_magic RX9 4 15 358 := G
  show AW X V σ 0 [] [some (rv V 0), some (iv r0), some (iv i), some (iv l)]
  have hN : NetOK σ 1 := hX.1.ok hk.1
  obtain ⟨⟨e0, e1, er⟩, ⟨x1, x2⟩, xp, xl, xr, xi⟩ := id hX
  obtain ⟨⟨n1, n2, n3, n4, n5, n6⟩, u1, l1, l2, i1, s1, w1⟩ := id hk
  obtain ⟨p1, p2, p3, p4, p5, p6⟩ := id hN
  refine aw_iload_n G dX9_magic_0 rfl ?_
  refine aw_if_lt (tgt := 9) G dX9_magic_1 (by decide) (by first | omega | exact b01_R _ | exact bP_R _) (fun c1 => ?_) (fun c1 => ?_)
  · refine aw_aload_n G dX9_magic_9 rfl ?_
    refine aw_bipush G dX9_magic_10 (k := ?_)
    refine cv_X9_77 G dX9_magic_12 (c_X9_refused (by decide)) (kk := fun r12 t12 h12 => ?_)
    obtain ⟨rfl, ee12⟩ := h12
    obtain rfl := ee12.symm
    exact aw_iret G T dX9_magic_15 (⟨by unfold an_magic; (repeat' split) <;> first | rfl | (exfalso; omega) | omega, by unfold nx_magic; (repeat' split) <;> first | exact hX | exact RX_ref hX (by decide) | (exfalso; omega), by first | exact MS.rf _ | exact (MS.rf _).up (by decide)⟩)
  · refine aw_iload_n G dX9_magic_4 rfl ?_
    refine aw_iconst G dX9_magic_5 ?_
    refine aw_icmp_ge (tgt := 16) G dX9_magic_6 (by decide) (by first | omega | exact b01_R _ | exact bP_R _) (by first | omega | exact b01_R _ | exact bP_R _) (fun c6 => ?_) (fun c6 => ?_)
    · refine aw_iload_n G dX9_magic_16 rfl ?_
      refine aw_bipush G dX9_magic_17 (k := ?_)
      refine aw_icmp_le (tgt := 29) G dX9_magic_19 (by decide) (by first | omega | exact b01_R _ | exact bP_R _) (by first | omega | exact b01_R _ | exact bP_R _) (fun c19 => ?_) (fun c19 => ?_)
      · refine aw_iload_n G dX9_magic_29 rfl ?_
        refine aw_iconst G dX9_magic_30 ?_
        refine aw_icmp_eq (tgt := 51) G dX9_magic_31 (by decide) (by first | omega | exact b01_R _ | exact bP_R _) (by first | omega | exact b01_R _ | exact bP_R _) (fun c31 => ?_) (fun c31 => ?_)
        · refine aw_aload_n G dX9_magic_51 rfl ?_
          refine aw_aload_n G dX9_magic_52 rfl ?_
          refine gf_X9_35 G dX9_magic_53 (kk := ?_)
          refine aw_iload_n G dX9_magic_56 rfl ?_
          refine aw_iload_n G dX9_magic_57 rfl ?_
          refine cv_X9_183 G dX9_magic_58 (c_X7_findMagic hN (by omega) (by omega)) (kk := fun r58 t58 h58 => ?_)
          obtain ⟨ho58, hc58, hr58⟩ := h58
          refine aw_iload_n G dX9_magic_61 rfl ?_
          refine aw_iload_n G dX9_magic_62 rfl ?_
          refine cv_X9_180 G dX9_magic_63 (c_X9_found (by omega) (by omega) (by intros; omega)) (kk := fun r63 t63 h63 => ?_)
          obtain ⟨rfl, ee63⟩ := h63
          obtain rfl := ee63.symm
          exact aw_iret G T dX9_magic_66 (by
    have hne : NetEq σ 1 α 75 := ⟨e0, e1, er⟩
    refine ⟨?_, by unfold nx_magic; (repeat' split) <;> first | exact RX_th ho58 hX | (exfalso; omega), MS_th ho58⟩
    rcases hc58 with ⟨q1, q2⟩ | ⟨q1, q2, f, q3, q4⟩
    · by_cases z : i = -1
      · rw [if_pos z, q1]
        unfold an_magic
        rw [if_neg (by omega), if_neg (by omega), if_neg (by omega), if_pos (by omega)]
        exact gN_e hne p4 r0
      · rw [if_neg z, if_neg (by omega)]
        unfold an_magic
        rw [if_neg (by omega), if_neg (by omega), if_neg (by omega), if_neg (by omega), (gaI_n (by omega)).mpr (by rw [← gN_e hne p4 r0]; omega)]
    · rw [if_neg (by omega), if_pos (by omega)]
      unfold an_magic
      rw [if_neg (by omega), if_neg (by omega), if_neg (by omega), if_neg (by omega), ← gI_e hne p4 r0 i, q3]
      exact q4 l (by omega) (by omega))
        · refine aw_aload_n G dX9_magic_34 rfl ?_
          refine gf_X9_10 G dX9_magic_35 (kk := ?_)
          refine aw_iload_n G dX9_magic_38 rfl ?_
          refine cv_X9_115 G dX9_magic_39 (c_X3_hasLine (by first | exact isNet_1 | exact isNet_13) (by first | assumption | omega) (by omega)) (kk := fun r39 t39 h39 => ?_)
          obtain ⟨rfl, ee39⟩ := h39
          obtain rfl := ee39.symm
          refine aw_if_ne (tgt := 51) G dX9_magic_42 (by decide) (by first | omega | exact b01_R _ | exact bP_R _) (fun c42 => ?_) (fun c42 => ?_)
          · try simp only [b01_0, b01_n, bP_0, bP_n, Classical.not_not] at c42
            refine aw_aload_n G dX9_magic_51 rfl ?_
            refine aw_aload_n G dX9_magic_52 rfl ?_
            refine gf_X9_35 G dX9_magic_53 (kk := ?_)
            refine aw_iload_n G dX9_magic_56 rfl ?_
            refine aw_iload_n G dX9_magic_57 rfl ?_
            refine cv_X9_183 G dX9_magic_58 (c_X7_findMagic hN (by omega) (by omega)) (kk := fun r58 t58 h58 => ?_)
            obtain ⟨ho58, hc58, hr58⟩ := h58
            refine aw_iload_n G dX9_magic_61 rfl ?_
            refine aw_iload_n G dX9_magic_62 rfl ?_
            refine cv_X9_180 G dX9_magic_63 (c_X9_found (by omega) (by omega) (by intros; omega)) (kk := fun r63 t63 h63 => ?_)
            obtain ⟨rfl, ee63⟩ := h63
            obtain rfl := ee63.symm
            exact aw_iret G T dX9_magic_66 (by
    have hne : NetEq σ 1 α 75 := ⟨e0, e1, er⟩
    refine ⟨?_, by unfold nx_magic; (repeat' split) <;> first | exact RX_th ho58 hX | (exfalso; omega), MS_th ho58⟩
    rcases hc58 with ⟨q1, q2⟩ | ⟨q1, q2, f, q3, q4⟩
    · by_cases z : i = -1
      · rw [if_pos z, q1]
        unfold an_magic
        rw [if_neg (by omega), if_neg (by omega), if_neg (by omega), if_pos (by omega)]
        exact gN_e hne p4 r0
      · rw [if_neg z, if_neg (by omega)]
        unfold an_magic
        rw [if_neg (by omega), if_neg (by omega), if_neg (by omega), if_neg (by omega), (gaI_n (by omega)).mpr (by rw [← gN_e hne p4 r0]; omega)]
    · rw [if_neg (by omega), if_pos (by omega)]
      unfold an_magic
      rw [if_neg (by omega), if_neg (by omega), if_neg (by omega), if_neg (by omega), ← gI_e hne p4 r0 i, q3]
      exact q4 l (by omega) (by omega))
          · try simp only [b01_0, b01_n, bP_0, bP_n, Classical.not_not] at c42
            refine aw_aload_n G dX9_magic_45 rfl ?_
            refine aw_iconst G dX9_magic_46 ?_
            refine cv_X9_77 G dX9_magic_47 (c_X9_refused (by decide)) (kk := fun r47 t47 h47 => ?_)
            obtain ⟨rfl, ee47⟩ := h47
            obtain rfl := ee47.symm
            exact aw_iret G T dX9_magic_50 (⟨by unfold an_magic; (repeat' split) <;> first | rfl | (exfalso; omega) | omega, by unfold nx_magic; (repeat' split) <;> first | exact hX | exact RX_ref hX (by decide) | (exfalso; omega), by first | exact MS.rf _ | exact (MS.rf _).up (by decide)⟩)
      · refine aw_aload_n G dX9_magic_22 rfl ?_
        refine aw_bipush G dX9_magic_23 (k := ?_)
        refine cv_X9_77 G dX9_magic_25 (c_X9_refused (by decide)) (kk := fun r25 t25 h25 => ?_)
        obtain ⟨rfl, ee25⟩ := h25
        obtain rfl := ee25.symm
        exact aw_iret G T dX9_magic_28 (⟨by unfold an_magic; (repeat' split) <;> first | rfl | (exfalso; omega) | omega, by unfold nx_magic; (repeat' split) <;> first | exact hX | exact RX_ref hX (by decide) | (exfalso; omega), by first | exact MS.rf _ | exact (MS.rf _).up (by decide)⟩)
    · refine aw_aload_n G dX9_magic_9 rfl ?_
      refine aw_bipush G dX9_magic_10 (k := ?_)
      refine cv_X9_77 G dX9_magic_12 (c_X9_refused (by decide)) (kk := fun r12 t12 h12 => ?_)
      obtain ⟨rfl, ee12⟩ := h12
      obtain rfl := ee12.symm
      exact aw_iret G T dX9_magic_15 (⟨by unfold an_magic; (repeat' split) <;> first | rfl | (exfalso; omega) | omega, by unfold nx_magic; (repeat' split) <;> first | exact hX | exact RX_ref hX (by decide) | (exfalso; omega), by first | exact MS.rf _ | exact (MS.rf _).up (by decide)⟩)
