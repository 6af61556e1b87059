set_option maxHeartbeats 4000000 in
theorem c_X10_magicTo {V : Wd} {σ : St} {r0 wi : Int} (hn : NetOK σ 75) (hr : 0 ≤ r0 ∧ r0 ≤ 6) (hw : -1 ≤ wi ∧ wi ≤ 2147483647) : Ct V yX10_magicTo cX10_magicTo 5 (some .int) 4 86 [rv V 75, iv r0, iv wi] σ (PI (fun r τ => Only mTr σ τ ∧ ((r = gaN σ r0 ∧ (wi < 0 ∨ gaN σ r0 ≤ wi)) ∨ (0 ≤ wi ∧ r = wi ∧ ∃ f, gaI σ r0 wi = some f ∧ ∀ j : Int, 0 ≤ j → j < σ 75 1 → τ 88 j = f j)) ∧ 0 ≤ r ∧ r ≤ 16777216)) := by
  refine ct_of (by decide) (Nat.le_of_ble_eq_true rfl) (fun X G T => ?_)
  have G : Gd X V cX10_magicTo RX10 5 4 86 := G
  show AW X V σ 0 [] [some (rv V 75), some (iv r0), some (iv wi), none, none]
  obtain ⟨n1, n2, n3, n4, n5, n6⟩ := id hn
  have hA := gF_R hr (show 0 ≤ σ 75 1 ∧ σ 75 1 ≤ 8 by omega)
  have hE := gF_e (L := σ 75 1) hr.1
  have loop : ∀ (n0 : Nat) (n : Int) (τ : St) (f : Int → Int) (m : Int) (fu : Nat), (Only mTr σ τ) → (fu < n0) → ((m = 1 ∧ 1 ≤ fu ∧ MT σ τ f ∧ gW (r0 + 1) (σ 75 1) f ∧ valF (r0 + 1 + 1) f (σ 75 1).toNat + fu = (gF (σ 75 1) r0 : Int)) ∨ (m = 0 ∧ fu = 0)) → (0 ≤ n ∧ n + fu ≤ (gF (σ 75 1) r0 : Int)) → (gaN σ r0 = n + wayN (gQ (nwt σ 75) (σ 75 1) (σ 75 0) r0) (nxT (r0 + 1) (σ 75 1).toNat) fu f) → (0 ≤ wi → n ≤ wi ∧ wayI (gQ (nwt σ 75) (σ 75 1) (σ 75 0) r0) (nxT (r0 + 1) (σ 75 1).toNat) fu f (wi - n) = gaI σ r0 wi) → AW X V (τ) 9 [] [some (rv V 75), some (iv r0), some (iv wi), some (iv n), some (iv m)] := by
    intro n0
    induction n0 with
    | zero =>
      intro n τ f m fu hO h1 hm h0 hqN hqI
      exfalso
      omega
    | succ n0 ih =>
      intro n τ f m fu hO h1 hm h0 hqN hqI
      refine aw_iload G dX10_magicTo_9 rfl ?_
      refine aw_if_eq (tgt := 58) G dX10_magicTo_11 (by decide) (by omega) (fun c11 => ?_) (fun c11 => ?_)
      · try simp only [b01_0, b01_n, bP_0, bP_n, Classical.not_not] at c11
        refine aw_iload_n G dX10_magicTo_58 rfl ?_
        exact aw_iret G T dX10_magicTo_59 (by
  have fu0 : fu = 0 := by rcases hm with q | q <;> omega
  subst fu0
  have hN0 : gaN σ r0 = n := by rw [hqN]; unfold wayN; omega
  exact ⟨hO, Or.inl ⟨hN0.symm, by have := fun q => (hqI q).1; omega⟩, by omega, by omega⟩)
      · try simp only [b01_0, b01_n, bP_0, bP_n, Classical.not_not] at c11
        obtain ⟨rfl, hfu, hT, hf, hv⟩ : m = 1 ∧ 1 ≤ fu ∧ MT σ τ f ∧ gW (r0 + 1) (σ 75 1) f ∧ valF (r0 + 1 + 1) f (σ 75 1).toNat + fu = (gF (σ 75 1) r0 : Int) := by
          rcases hm with q | q
          · exact q
          · omega
        obtain ⟨fu', rfl⟩ : ∃ q, fu = q + 1 := ⟨fu - 1, by omega⟩
        have e75 : τ 75 = σ 75 := hO 75 (by decide)
        have hRs := MT_R hT hn (fun j a b => by have := hf.1 j; omega)
        have hab : (∃ p : Int, 0 ≤ p ∧ p < τ 75 0 ∧ r0 < τ 89 p) ↔ (∃ p : Int, 0 ≤ p ∧ p < σ 75 0 ∧ r0 < tsum (nwt σ 75) f (σ 75 1) p) := by
          rw [e75]
          constructor
          · rintro ⟨p, a, b, c⟩
            exact ⟨p, a, b, by rw [← hT.2.2.2 p a b]; exact c⟩
          · rintro ⟨p, a, b, c⟩
            exact ⟨p, a, b, by rw [hT.2.2.2 p a b]; exact c⟩
        have hQ : (∀ p : Int, 0 ≤ p → p < τ 75 0 → τ 89 p = r0) ↔ (gQ (nwt σ 75) (σ 75 1) (σ 75 0) r0) f := by
          rw [e75]
          constructor
          · intro h p a b
            rw [← hT.2.2.2 p a b]
            exact h p a b
          · intro h p a b
            rw [hT.2.2.2 p a b]
            exact h p a b
        refine aw_aload_n G dX10_magicTo_14 rfl ?_
        refine aw_iload_n G dX10_magicTo_15 rfl ?_
        refine cv_X10_178 G dX10_magicTo_16 (c_X10_isAbove (by rw [e75]; omega) (by omega) (by rw [e75]; exact hRs)) (kk := fun r16 t16 h16 => ?_)
        obtain ⟨rfl, ee16⟩ := h16
        obtain rfl := ee16.symm
        refine aw_if_eq (tgt := 31) G dX10_magicTo_19 (by decide) (bP_R _) (fun c19 => ?_) (fun c19 => ?_)
        · try simp only [b01_0, b01_n, bP_0, bP_n, Classical.not_not] at c19
          refine aw_aload_n G dX10_magicTo_31 rfl ?_
          refine aw_iload_n G dX10_magicTo_32 rfl ?_
          have hle : ∀ j : Int, 0 ≤ j → j < σ 75 1 → f j ≤ r0 := fun j a b => mg_le hn (fun j => (hf.1 j).1) (fun q => c19 (hab.mpr q)) a b
          refine cv_X10_185 G dX10_magicTo_33 (c_X10_isAll (by rw [e75]; omega) (by omega) (by rw [e75]; exact hRs)) (kk := fun r33 t33 h33 => ?_)
          obtain ⟨rfl, ee33⟩ := h33
          obtain rfl := ee33.symm
          refine aw_if_eq (tgt := 49) G dX10_magicTo_36 (by decide) (bP_R _) (fun c36 => ?_) (fun c36 => ?_)
          · try simp only [b01_0, b01_n, bP_0, bP_n, Classical.not_not] at c36
            refine aw_aload_n G dX10_magicTo_49 rfl ?_
            refine cv_X10_188 G dX10_magicTo_50 (c_X10_goesUp hn hT (fun j _ _ => by have := hf.1 j; omega)) (kk := fun r50 t50 h50 => ?_)
            refine aw_istore_4 G dX10_magicTo_53 (hc := by first | rfl | assumption) (k := ?_)
            refine aw_goto (tgt := 9) G dX10_magicTo_55 (by decide) ?_
            rw [wayN_s, bP_f (show ¬ (gQ (nwt σ 75) (σ 75 1) (σ 75 0) r0) f from fun q => c36 (hQ.mpr q))] at hqN
            rw [Int.zero_add] at hqN
            rcases h50 with ⟨g1, g2, g3⟩ | ⟨g1, g2, g3⟩
            · obtain ⟨v1, v2, v3⟩ := up_1 (k := r0 + 1) (by omega) hf.1 g2 (fun j a b => by have := hle j a b; omega)
              refine ih n t50 (nxT (r0 + 1) (σ 75 1).toNat f) r50 fu' (by rw [v1] at *; exact g3.1) (by omega) (Or.inl ⟨g1, by omega, by rw [v1]; exact g3, by rw [v1]; exact gW_up hf (by omega) g2 (fun j a b => by have := hle j a b; omega), by omega⟩) (by omega) (by omega) (fun q => ?_)
              have hz := hqI q
              rw [wayI_s, bP_f (show ¬ (gQ (nwt σ 75) (σ 75 1) (σ 75 0) r0) f from fun q => c36 (hQ.mpr q)), if_neg (by decide)] at hz
              exact hz
            · have hp0 : pw (r0 + 1 + 1) (σ 75 1).toNat = 1 := by rw [g2]; rfl
              have hv0 := (valF_lt (k := r0 + 1) (by omega) hf.1 (σ 75 1).toNat).1
              refine ih n t50 (nxT (r0 + 1) (σ 75 1).toNat f) r50 fu' (by rw [g3]; exact hO) (by omega) (Or.inr ⟨g1, by omega⟩) (by omega) (by omega) (fun q => ?_)
              have hz := hqI q
              rw [wayI_s, bP_f (show ¬ (gQ (nwt σ 75) (σ 75 1) (σ 75 0) r0) f from fun q => c36 (hQ.mpr q)), if_neg (by decide)] at hz
              exact hz
          · try simp only [b01_0, b01_n, bP_0, bP_n, Classical.not_not] at c36
            refine aw_iload_n G dX10_magicTo_39 rfl ?_
            refine aw_iload_n G dX10_magicTo_40 rfl ?_
            refine aw_icmp_ne (tgt := 46) G dX10_magicTo_41 (by decide) (by first | omega | exact b01_R _ | exact bP_R _) (by first | omega | exact b01_R _ | exact bP_R _) (fun c41 => ?_) (fun c41 => ?_)
            · refine aw_iinc_3 G dX10_magicTo_46 rfl (hc := by first | rfl | assumption) (k := ?_)
              refine aw_aload_n G dX10_magicTo_49 rfl ?_
              refine cv_X10_188 G dX10_magicTo_50 (c_X10_goesUp hn hT (fun j _ _ => by have := hf.1 j; omega)) (kk := fun r50 t50 h50 => ?_)
              refine aw_istore_4 G dX10_magicTo_53 (hc := by first | rfl | assumption) (k := ?_)
              refine aw_goto (tgt := 9) G dX10_magicTo_55 (by decide) ?_
              rw [wayN_s, bP_t (hQ.mp c36)] at hqN
              rcases h50 with ⟨g1, g2, g3⟩ | ⟨g1, g2, g3⟩
              · obtain ⟨v1, v2, v3⟩ := up_1 (k := r0 + 1) (by omega) hf.1 g2 (fun j a b => by have := hle j a b; omega)
                refine ih (n + 1) t50 (nxT (r0 + 1) (σ 75 1).toNat f) r50 fu' (by rw [v1] at *; exact g3.1) (by omega) (Or.inl ⟨g1, by omega, by rw [v1]; exact g3, by rw [v1]; exact gW_up hf (by omega) g2 (fun j a b => by have := hle j a b; omega), by omega⟩) (by omega) (by omega) (fun q => ?_)
                have hz := hqI q
                rw [wayI_s, bP_t (hQ.mp c36), if_pos rfl, if_neg (by omega)] at hz
                exact ⟨by omega, by rw [show wi - (n + 1) = wi - n - 1 by omega]; exact hz.2⟩
              · have hp0 : pw (r0 + 1 + 1) (σ 75 1).toNat = 1 := by rw [g2]; rfl
                have hv0 := (valF_lt (k := r0 + 1) (by omega) hf.1 (σ 75 1).toNat).1
                refine ih (n + 1) t50 (nxT (r0 + 1) (σ 75 1).toNat f) r50 fu' (by rw [g3]; exact hO) (by omega) (Or.inr ⟨g1, by omega⟩) (by omega) (by omega) (fun q => ?_)
                have hz := hqI q
                rw [wayI_s, bP_t (hQ.mp c36), if_pos rfl, if_neg (by omega)] at hz
                exact ⟨by omega, by rw [show wi - (n + 1) = wi - n - 1 by omega]; exact hz.2⟩
            · refine aw_iload_n G dX10_magicTo_44 rfl ?_
              exact aw_iret G T dX10_magicTo_45 (by
  refine ⟨hO, Or.inr ⟨by omega, by omega, f, ?_, fun j a b => hT.2.2.1 j a b⟩, by omega, by omega⟩
  have hz := (hqI (by omega)).2
  rw [wayI_s, bP_t (hQ.mp c36), if_pos rfl, if_pos (by omega)] at hz
  exact hz.symm)
        · try simp only [b01_0, b01_n, bP_0, bP_n, Classical.not_not] at c19
          refine aw_aload_n G dX10_magicTo_22 rfl ?_
          refine cv_X10_181 G dX10_magicTo_23 (c_X10_goesPast hn hT (fun j _ _ => by have := hf.1 j; omega)) (kk := fun r23 t23 h23 => ?_)
          refine aw_istore_4 G dX10_magicTo_26 (hc := by first | rfl | assumption) (k := ?_)
          refine aw_goto (tgt := 9) G dX10_magicTo_28 (by decide) ?_
          rcases h23 with ⟨g1, i, i1, i2, i3, i4, g3⟩ | ⟨g1, g2, g3⟩
          · obtain ⟨p1, p2⟩ := gW_pa hf (by omega) ⟨i1, i2⟩ i3 i4
            obtain ⟨fu2, q1, q2, q3, q4, q5⟩ := pa_1 (k := r0 + 1) (by omega) ⟨i1, i2⟩ (gQ (nwt σ 75) (σ 75 1) (σ 75 0) r0) (fu := fu' + 1) i4 hf.1 (fun g a b c => mg_gt hn (hab.mp c19) (fun l l0 l1 => by
              rcases (show l < i ∨ l = i ∨ i < l by omega) with e | e | e
              · rw [a l e]; exact Int.le_refl _
              · rw [e]; exact b
              · rw [i4 l e l1]; exact (c l).1)) p1 (by omega)
            exact ih n t23 _ r23 fu2 g3.1 (by omega) (Or.inl ⟨g1, q2, g3, p2, by omega⟩) (by omega) (by rw [← q4]; exact hqN) (fun q => ⟨(hqI q).1, by rw [← q5 _ (by have := (hqI q).1; omega)]; exact (hqI q).2⟩)
          · have hL := mg_L hr.1 (hab.mp c19) n3
            have hz := pa_0 (k := r0 + 1) (by omega) hL (gQ (nwt σ 75) (σ 75 1) (σ 75 0) r0) (fu := fu' + 1) g2 hf.1 (fun g b c => mg_gt hn (hab.mp c19) (fun l l0 l1 => by
              by_cases e : l = 0
              · rw [e]; exact b
              · rw [g2 l (by omega) l1]; exact (c l).1)) (by omega)
            rw [hz] at hqN
            exact ih n t23 f r23 0 g3 (by omega) (Or.inr ⟨g1, rfl⟩) (by omega) hqN (fun q => ⟨(hqI q).1, by
              have h2 := (hqI q).2
              rw [wayI_no (by have := (hqI q).1; omega) hz] at h2
              exact h2⟩)
  refine aw_aload_n G dX10_magicTo_0 rfl ?_
  refine cv_X10_168 G dX10_magicTo_1 (c_X10_triesNought (by assumption)) (kk := fun t1 h1 => ?_)
  refine aw_iconst G dX10_magicTo_4 ?_
  refine aw_istore_3 G dX10_magicTo_5 (hc := by first | rfl | assumption) (k := ?_)
  refine aw_iconst G dX10_magicTo_6 ?_
  refine aw_istore_4 G dX10_magicTo_7 (hc := by first | rfl | assumption) (k := ?_)
  exact loop (gF (σ 75 1) r0 + 1) 0 t1 (fun _ => 0) 1 (gF (σ 75 1) r0) h1.1 (by omega) (Or.inl ⟨rfl, by omega, h1, gW_0 (by omega), by rw [valF_0]; omega⟩) (by omega) (by unfold gaN gN; omega) (fun q => ⟨by omega, by rw [show wi - 0 = wi by omega]; rfl⟩)
theorem ga_c {σ τ : St} (h : Only mTr σ τ) (r : Int) : gaN τ r = gaN σ r ∧ ∀ i, gaI τ r i = gaI σ r i := by
  unfold gaN gaI
  rw [nwt_only h (by decide), h 75 (by decide)]
  exact ⟨rfl, fun _ => rfl⟩
set_option maxHeartbeats 4000000 in
theorem c_X10_magic {V : Wd} {σ : St} {r0 i l : Int} (h1 : inR r0) (h2 : inR i) (h3 : inR l) (hk : OK σ) : Ct V yX10_magic cX10_magic 5 (some .int) 5 110 [rv V 75, iv r0, iv i, iv l] σ (PI (fun r τ => r = an_magic σ r0 i l ∧ ME τ (nx_magic σ r0 i l))) := by
  refine ct_of (by decide) (Nat.le_of_ble_eq_true rfl) (fun X G T => ?_)
  have G : Gd X V cX10_magic RX10 5 5 110 := G
  show AW X V σ 0 [] [some (rv V 75), some (iv r0), some (iv i), some (iv l), none]
  obtain ⟨⟨n1, n2, n3, n4, n5, n6⟩, u1, l1, l2, i1, s1, w1⟩ := id hk
  refine aw_iload_n G dX10_magic_0 rfl ?_
  refine aw_if_lt (tgt := 9) G dX10_magic_1 (by decide) (by first | omega | exact b01_R _ | exact bP_R _) (fun c1 => ?_) (fun c1 => ?_)
  · refine aw_aload_n G dX10_magic_9 rfl ?_
    refine aw_bipush G dX10_magic_10 (k := ?_)
    refine cv_X10_87 G dX10_magic_12 (c_X10_refused (by decide)) (kk := fun r12 t12 h12 => ?_)
    obtain ⟨rfl, ee12⟩ := h12
    obtain rfl := ee12.symm
    exact aw_iret G T dX10_magic_15 (⟨by unfold an_magic; (repeat' split) <;> first | rfl | (exfalso; omega) | omega, by unfold nx_magic; (repeat' split) <;> first | exact ME.rf _ | (exfalso; omega)⟩)
  · refine aw_iload_n G dX10_magic_4 rfl ?_
    refine aw_iconst G dX10_magic_5 ?_
    refine aw_icmp_ge (tgt := 16) G dX10_magic_6 (by decide) (by first | omega | exact b01_R _ | exact bP_R _) (by first | omega | exact b01_R _ | exact bP_R _) (fun c6 => ?_) (fun c6 => ?_)
    · refine aw_iload_n G dX10_magic_16 rfl ?_
      refine aw_bipush G dX10_magic_17 (k := ?_)
      refine aw_icmp_le (tgt := 29) G dX10_magic_19 (by decide) (by first | omega | exact b01_R _ | exact bP_R _) (by first | omega | exact b01_R _ | exact bP_R _) (fun c19 => ?_) (fun c19 => ?_)
      · refine aw_iload_n G dX10_magic_29 rfl ?_
        refine aw_if_lt (tgt := 47) G dX10_magic_30 (by decide) (by first | omega | exact b01_R _ | exact bP_R _) (fun c30 => ?_) (fun c30 => ?_)
        · refine aw_iload_n G dX10_magic_47 rfl ?_
          refine aw_if_ge (tgt := 58) G dX10_magic_48 (by decide) (by first | omega | exact b01_R _ | exact bP_R _) (fun c48 => ?_) (fun c48 => ?_)
          · refine aw_aload_n G dX10_magic_58 rfl ?_
            refine aw_iload_n G dX10_magic_59 rfl ?_
            refine aw_iconst G dX10_magic_60 ?_
            refine cv_X10_191 G dX10_magic_61 (c_X10_magicTo hk.1 (by omega) (by omega)) (kk := fun r61 t61 h61 => ?_)
            obtain ⟨ho61, hc61, hr61⟩ := h61
            have hN0 : r61 = gaN σ r0 := by
              rcases hc61 with ⟨q1, q2⟩ | ⟨q1, q2⟩
              · exact q1
              · omega
            refine aw_iload_n G dX10_magic_64 rfl ?_
            refine aw_icmp_gt (tgt := 71) G dX10_magic_65 (by decide) (by first | omega | exact b01_R _ | exact bP_R _) (by first | omega | exact b01_R _ | exact bP_R _) (fun c65 => ?_) (fun c65 => ?_)
            · refine aw_aload_n G dX10_magic_71 rfl ?_
              refine aw_iload_n G dX10_magic_72 rfl ?_
              refine aw_iload_n G dX10_magic_73 rfl ?_
              refine cv_X10_191 G dX10_magic_74 (c_X10_magicTo (NetOK.only ho61 (by decide) hk.1) (by omega) (by omega)) (kk := fun r74 t74 h74 => ?_)
              obtain ⟨ho74, hc74, hr74⟩ := h74
              obtain ⟨wc1, wc2⟩ := ga_c ho61 r0
              rw [wc1, wc2 i, ho61 75 (by decide)] at hc74
              refine aw_istore_4 G dX10_magic_77 (hc := by first | rfl | assumption) (k := ?_)
              refine aw_aload_n G dX10_magic_79 rfl ?_
              refine gf_X10_50 G dX10_magic_80 (kk := ?_)
              refine aw_iload_n G dX10_magic_83 rfl ?_
              refine aw_iaload G dX10_magic_84 (by first | decide | assumption | omega) (by first | rfl | assumption) (by first | decide | assumption) (by omega) ?_
              exact aw_iret G T dX10_magic_85 (by
    refine ⟨?_, by unfold nx_magic; (repeat' split) <;> first | exact ME_T (ho61.tr ho74) | (exfalso; omega)⟩
    rcases hc74 with ⟨q1, q2⟩ | ⟨q1, q2, f, q3, q4⟩
    · omega
    · unfold an_magic
      rw [if_neg (by omega), if_neg (by omega), if_neg (by omega), if_neg (by omega), q3]
      exact q4 l (by omega) (by omega))
            · refine aw_bipush G dX10_magic_68 (k := ?_)
              exact aw_iret G T dX10_magic_70 (by
    refine ⟨?_, by unfold nx_magic; (repeat' split) <;> first | exact ME_T ho61 | (exfalso; omega)⟩
    unfold an_magic
    rw [if_neg (by omega), if_neg (by omega), if_neg (by omega), if_neg (by omega), (gaI_n (by omega)).mpr (by omega)])
          · refine aw_aload_n G dX10_magic_51 rfl ?_
            refine aw_iload_n G dX10_magic_52 rfl ?_
            refine aw_iconst G dX10_magic_53 ?_
            refine cv_X10_191 G dX10_magic_54 (c_X10_magicTo hk.1 (by omega) (by omega)) (kk := fun r54 t54 h54 => ?_)
            obtain ⟨ho54, hc54, hr54⟩ := h54
            exact aw_iret G T dX10_magic_57 (by
    refine ⟨?_, by unfold nx_magic; (repeat' split) <;> first | exact ME_T ho54 | (exfalso; omega)⟩
    unfold an_magic
    rw [if_neg (by omega), if_neg (by omega), if_neg (by omega), if_pos (by omega)]
    rcases hc54 with ⟨q1, q2⟩ | ⟨q1, q2⟩
    · exact q1
    · omega)
        · refine aw_aload_n G dX10_magic_33 rfl ?_
          refine aw_iload_n G dX10_magic_34 rfl ?_
          refine cv_X10_108 G dX10_magic_35 (c_X10_isLine (by first | assumption | omega) (by omega)) (kk := fun r35 t35 h35 => ?_)
          obtain ⟨rfl, ee35⟩ := h35
          obtain rfl := ee35.symm
          refine aw_if_ne (tgt := 47) G dX10_magic_38 (by decide) (by first | omega | exact b01_R _ | exact bP_R _) (fun c38 => ?_) (fun c38 => ?_)
          · try simp only [b01_0, b01_n, bP_0, bP_n, Classical.not_not] at c38
            refine aw_iload_n G dX10_magic_47 rfl ?_
            refine aw_if_ge (tgt := 58) G dX10_magic_48 (by decide) (by first | omega | exact b01_R _ | exact bP_R _) (fun c48 => ?_) (fun c48 => ?_)
            · refine aw_aload_n G dX10_magic_58 rfl ?_
              refine aw_iload_n G dX10_magic_59 rfl ?_
              refine aw_iconst G dX10_magic_60 ?_
              refine cv_X10_191 G dX10_magic_61 (c_X10_magicTo hk.1 (by omega) (by omega)) (kk := fun r61 t61 h61 => ?_)
              obtain ⟨ho61, hc61, hr61⟩ := h61
              have hN0 : r61 = gaN σ r0 := by
                rcases hc61 with ⟨q1, q2⟩ | ⟨q1, q2⟩
                · exact q1
                · omega
              refine aw_iload_n G dX10_magic_64 rfl ?_
              refine aw_icmp_gt (tgt := 71) G dX10_magic_65 (by decide) (by first | omega | exact b01_R _ | exact bP_R _) (by first | omega | exact b01_R _ | exact bP_R _) (fun c65 => ?_) (fun c65 => ?_)
              · refine aw_aload_n G dX10_magic_71 rfl ?_
                refine aw_iload_n G dX10_magic_72 rfl ?_
                refine aw_iload_n G dX10_magic_73 rfl ?_
                refine cv_X10_191 G dX10_magic_74 (c_X10_magicTo (NetOK.only ho61 (by decide) hk.1) (by omega) (by omega)) (kk := fun r74 t74 h74 => ?_)
                obtain ⟨ho74, hc74, hr74⟩ := h74
                obtain ⟨wc1, wc2⟩ := ga_c ho61 r0
                rw [wc1, wc2 i, ho61 75 (by decide)] at hc74
                refine aw_istore_4 G dX10_magic_77 (hc := by first | rfl | assumption) (k := ?_)
                refine aw_aload_n G dX10_magic_79 rfl ?_
                refine gf_X10_50 G dX10_magic_80 (kk := ?_)
                refine aw_iload_n G dX10_magic_83 rfl ?_
                refine aw_iaload G dX10_magic_84 (by first | decide | assumption | omega) (by first | rfl | assumption) (by first | decide | assumption) (by omega) ?_
                exact aw_iret G T dX10_magic_85 (by
    refine ⟨?_, by unfold nx_magic; (repeat' split) <;> first | exact ME_T (ho61.tr ho74) | (exfalso; omega)⟩
    rcases hc74 with ⟨q1, q2⟩ | ⟨q1, q2, f, q3, q4⟩
    · omega
    · unfold an_magic
      rw [if_neg (by omega), if_neg (by omega), if_neg (by omega), if_neg (by omega), q3]
      exact q4 l (by omega) (by omega))
              · refine aw_bipush G dX10_magic_68 (k := ?_)
                exact aw_iret G T dX10_magic_70 (by
    refine ⟨?_, by unfold nx_magic; (repeat' split) <;> first | exact ME_T ho61 | (exfalso; omega)⟩
    unfold an_magic
    rw [if_neg (by omega), if_neg (by omega), if_neg (by omega), if_neg (by omega), (gaI_n (by omega)).mpr (by omega)])
            · refine aw_aload_n G dX10_magic_51 rfl ?_
              refine aw_iload_n G dX10_magic_52 rfl ?_
              refine aw_iconst G dX10_magic_53 ?_
              refine cv_X10_191 G dX10_magic_54 (c_X10_magicTo hk.1 (by omega) (by omega)) (kk := fun r54 t54 h54 => ?_)
              obtain ⟨ho54, hc54, hr54⟩ := h54
              exact aw_iret G T dX10_magic_57 (by
    refine ⟨?_, by unfold nx_magic; (repeat' split) <;> first | exact ME_T ho54 | (exfalso; omega)⟩
    unfold an_magic
    rw [if_neg (by omega), if_neg (by omega), if_neg (by omega), if_pos (by omega)]
    rcases hc54 with ⟨q1, q2⟩ | ⟨q1, q2⟩
    · exact q1
    · omega)
          · try simp only [b01_0, b01_n, bP_0, bP_n, Classical.not_not] at c38
            refine aw_aload_n G dX10_magic_41 rfl ?_
            refine aw_iconst G dX10_magic_42 ?_
            refine cv_X10_87 G dX10_magic_43 (c_X10_refused (by decide)) (kk := fun r43 t43 h43 => ?_)
            obtain ⟨rfl, ee43⟩ := h43
            obtain rfl := ee43.symm
            exact aw_iret G T dX10_magic_46 (⟨by unfold an_magic; (repeat' split) <;> first | rfl | (exfalso; omega) | omega, by unfold nx_magic; (repeat' split) <;> first | exact ME.rf _ | (exfalso; omega)⟩)
      · refine aw_aload_n G dX10_magic_22 rfl ?_
        refine aw_bipush G dX10_magic_23 (k := ?_)
        refine cv_X10_87 G dX10_magic_25 (c_X10_refused (by decide)) (kk := fun r25 t25 h25 => ?_)
        obtain ⟨rfl, ee25⟩ := h25
        obtain rfl := ee25.symm
        exact aw_iret G T dX10_magic_28 (⟨by unfold an_magic; (repeat' split) <;> first | rfl | (exfalso; omega) | omega, by unfold nx_magic; (repeat' split) <;> first | exact ME.rf _ | (exfalso; omega)⟩)
    · refine aw_aload_n G dX10_magic_9 rfl ?_
      refine aw_bipush G dX10_magic_10 (k := ?_)
      refine cv_X10_87 G dX10_magic_12 (c_X10_refused (by decide)) (kk := fun r12 t12 h12 => ?_)
      obtain ⟨rfl, ee12⟩ := h12
      obtain rfl := ee12.symm
      exact aw_iret G T dX10_magic_15 (⟨by unfold an_magic; (repeat' split) <;> first | rfl | (exfalso; omega) | omega, by unfold nx_magic; (repeat' split) <;> first | exact ME.rf _ | (exfalso; omega)⟩)

