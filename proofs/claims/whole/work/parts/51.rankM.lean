def frow (P : Int → Prop) (N : Int) (n r : Int) : Prop := n ≤ r ∧ r < N ∧ P r ∧ ∀ i : Int, n ≤ i → i < r → ¬ P i
theorem fr_u {P : Int → Prop} {N n r r' : Int} (h : frow P N n r) (h' : frow P N n r') : r = r' := by
  obtain ⟨a1, a2, a3, a4⟩ := h
  obtain ⟨b1, b2, b3, b4⟩ := h'
  by_cases c : r < r'
  · exact absurd a3 (b4 r a1 c)
  · by_cases c2 : r' < r
    · exact absurd b3 (a4 r' b1 c2)
    · omega
/-- the rank: rows that have a head, column by column -/
noncomputable def bar (N : Int) : Nat → Int → Int → Int → (Int → Int → Int) → Int
  | 0, _, n, _, _ => n
  | m + 1, l, n, d, A => by
    classical
    exact if N ≤ n then n else if h : ∃ r, frow (fun i => A i l ≠ 0) N n r then bar N m (l + 1) (n + 1) (A h.choose l) (pvA n l d (fun s => A (swi n h.choose s))) else bar N m (l + 1) n d A
theorem bar_n {N n : Int} (h : N ≤ n) : ∀ (m : Nat) (l d : Int) (A : Int → Int → Int), bar N m l n d A = n
  | 0, l, d, A => rfl
  | m + 1, l, d, A => by
    unfold bar
    rw [if_pos h]
theorem bar_no {N n l d : Int} {A : Int → Int → Int} {m : Nat} (h : n < N) (hz : ∀ i : Int, n ≤ i → i < N → A i l = 0) : bar N (m + 1) l n d A = bar N m (l + 1) n d A := by
  conv => lhs; unfold bar
  rw [if_neg (by omega), dif_neg]
  intro q
  obtain ⟨r, r1, r2, r3, r4⟩ := q
  exact r3 (hz r r1 r2)
theorem bar_y {N n l d r : Int} {A : Int → Int → Int} {m : Nat} (h1 : n ≤ r) (h2 : r < N) (h3 : A r l ≠ 0) (hz : ∀ i : Int, n ≤ i → i < r → A i l = 0) : bar N (m + 1) l n d A = bar N m (l + 1) (n + 1) (A r l) (pvA n l d (fun s => A (swi n r s))) := by
  have hr : frow (fun i => A i l ≠ 0) N n r := ⟨h1, h2, h3, fun i a b q => q (hz i a b)⟩
  have hx : ∃ r, frow (fun i => A i l ≠ 0) N n r := ⟨r, hr⟩
  conv => lhs; unfold bar
  rw [if_neg (by omega), dif_pos hx, fr_u hx.choose_spec hr]
noncomputable def rkN (α : St) : Int := bar (α 75 0) (α 75 1).toNat 0 0 1 (nwt α 75)
noncomputable def an_rank (α : St) (a : Int) : Int := if a ≠ 0 ∧ a ≠ 1 then -2 else if a = 0 then rkN α else α 75 1 - rkN α
def nx_rank (α : St) (a : Int) : St := if a ≠ 0 ∧ a ≠ 1 then rf α (-2) else α
def fwn (σ : St) (b : Nat) (j : Int) : Int := kforth (σ (b + 1) j) (σ (b + 2) j)
def bwn (σ : St) (b : Nat) (j : Int) : Int := kback (σ (b + 1) j) (σ (b + 2) j)
theorem Pr_13 (h : Int → Int) (hh : ∀ i, h i = 13) : ∀ (k : Nat) (n : Int), Pr h k n = 13 ^ k
  | 0, n => rfl
  | k + 1, n => by rw [Pr_s, Pr_13 h hh k, hh, Int.pow_succ, Int.mul_comm]
theorem rk0 {σ : St} {b : Nat} (hN : NetOK σ b) : (∀ j : Int, 0 ≤ j → j < σ b 1 → 0 ≤ fwn σ b j ∧ 0 ≤ bwn σ b j ∧ fwn σ b j + bwn σ b j ≤ 13) ∧ RKI (σ b 0) (σ b 1) (fwn σ b) (bwn σ b) 0 1 (nwt σ b) 1 (fun _ => 1) (fun _ => 1) (nwt σ b) (σ (b + 3)) (σ (b + 4)) := by
  obtain ⟨n1, n2, n3, n4, n5, n6⟩ := hN
  have one : ∀ (k : Nat) (n : Int) (f : Int → Int), (∀ i, f i = 1) → Pr f k n = 1 := by
    intro k
    induction k with
    | zero => intro n f _; rfl
    | succ k ih => intro n f hf; rw [Pr_s, hf, ih _ _ hf]; rfl
  have h1 : ∀ s : Int, ∀ i : Int, upf (fun _ => (1 : Int)) s 1 i = 1 := fun s i => by unfold upf; split <;> rfl
  refine ⟨fun j j0 j1 => ?_, by rw [one _ _ _ (fun _ => rfl)]; rfl, by decide, fun s j s0 s1 j0 j1 => by rw [one _ _ _ (h1 s)]; omega, fun s s0 s1 => (by decide : (1 : Int) ≤ 1 ∧ ab 1 ≤ 1), fun s j s0 s1 j0 j1 => ?_, ?_⟩
  · have h5 := n5 j j0 (by omega)
    unfold fwn bwn kforth kback
    (repeat' split) <;> omega
  · have h5 := n5 j j0 (by omega)
    have h6 := (nwt_R (p := s) ⟨h5.2.2.1, h5.2.2.2.1⟩).1
    rw [Int.mul_one]
    show ab (nwt σ b s j) ≤ nwt σ b s j
    unfold ab
    omega
  · rw [Pr_13 (fun i => 13 * (fun _ => 1) i) (fun _ => rfl)]
    have hk : (σ b 0 - 0).toNat = 1 ∨ (σ b 0 - 0).toNat = 2 ∨ (σ b 0 - 0).toNat = 3 ∨ (σ b 0 - 0).toNat = 4 ∨ (σ b 0 - 0).toNat = 5 ∨ (σ b 0 - 0).toNat = 6 ∨ (σ b 0 - 0).toNat = 7 := by omega
    rcases hk with e | e | e | e | e | e | e <;> rw [e] <;> decide
theorem ab_R {x y z u : Int} {M : Int} (h1 : ab x ≤ M) (h2 : ab y ≤ M) (h3 : ab z ≤ M) (h4 : ab u ≤ M) (hM : 0 ≤ M) : ab (x * y - z * u) ≤ 2 * (M * M) := by
  have a := ab_sub (x * y) (z * u)
  rw [ab_mul, ab_mul] at a
  have b := mul_le h1 h2 (ab_0 _) hM
  have c := mul_le h3 h4 (ab_0 _) hM
  omega
theorem swi_n (n r : Int) : swi n r n = r := if_pos rfl
theorem swi_r (n r : Int) : swi n r r = n := by unfold swi; split <;> first | assumption | (rw [if_pos rfl])
theorem swi_o {n r i : Int} (h1 : i ≠ n) (h2 : i ≠ r) : swi n r i = i := by unfold swi; rw [if_neg h1, if_neg h2]
set_option maxHeartbeats 4000000 in
theorem c_X10_rankNow {V : Wd} {σ : St}  (hN : NetOK σ 75) : Ct V yX10_rankNow cX10_rankNow 12 (some .int) 2 43 [rv V 75] σ (PI (fun q τ => q = rkN σ ∧ Only [92] σ τ ∧ 0 ≤ q ∧ q ≤ 8)) := by
  refine ct_of (by decide) (Nat.le_of_ble_eq_true rfl) (fun X G T => ?_)
  have G : Gd X V cX10_rankNow RX10 12 2 43 := G
  show AW X V σ 0 [] [some (rv V 75), none, none, none, none, none, none, none, none, none, none, none]
  obtain ⟨n1, n2, n3, n4, n5, n6⟩ := id hN
  obtain ⟨hw, hI0⟩ := rk0 hN
  have main : ∀ (n0 : Nat) (l : Int) (n : Int) (d : Int) (A : Int → Int → Int) (τ : St) (u5 : Option Value) (u6 : Option Value) (u7 : Option Value) (u8 : Option Value) (u9 : Option Value) (u10 : Option Value) (u11 : Option Value), (0 ≤ l ∧ l ≤ σ 75 1) → (σ 75 1 < l + (n0 : Int)) → (Only [92] σ τ) → (∃ K g h x e e', RKI (σ 75 0) (σ 75 1) (fwn σ 75) (bwn σ 75) n d A K g h x e e') → (0 ≤ n ∧ n ≤ σ 75 0) → (∀ s j : Int, n ≤ s → s < σ 75 0 → 0 ≤ j → j < σ 75 1 → τ 92 (8 * s + j) = A s j) → (rkN σ = bar (σ 75 0) (σ 75 1 - l).toNat l n d A) → AW X V (τ) 57 [] [some (rv V 75), some (iv (n)), some (jv (d)), none, some (iv (l)), u5, u6, u7, u8, u9, u10, u11] := by
    intro n0
    induction n0 with
    | zero =>
      intro l n d A τ u5 u6 u7 u8 u9 u10 u11 h0 h1 ho hI hn hM hb
      exfalso
      omega
    | succ n0 ih =>
      intro l n d A τ u5 u6 u7 u8 u9 u10 u11 h0 h1 ho hI hn hM hb
      have e75 : τ 75 = σ 75 := ho 75 (by decide)
      have hbd0 : ab d ≤ 62748517 ∧ ∀ s j : Int, n ≤ s → s < σ 75 0 → 0 ≤ j → j < σ 75 1 → ab (A s j) ≤ 62748517 := by
        obtain ⟨K, g, h, x, e, e', hI⟩ := hI
        exact rk_bd hw hI
      refine aw_iload G dX10_rankNow_57 rfl ?_
      refine aw_aload_n G dX10_rankNow_59 rfl ?_
      refine gf_X10_82 G dX10_rankNow_60 (kk := ?_)
      rw [e75]
      refine aw_icmp_ge (tgt := 320) G dX10_rankNow_63 (by decide) (by first | omega | exact b01_R _ | exact bP_R _) (by first | omega | exact b01_R _ | exact bP_R _) (fun c63 => ?_) (fun c63 => ?_)
      · refine aw_iload_n G dX10_rankNow_320 rfl ?_
        exact aw_iret G T dX10_rankNow_321 (by
        refine ⟨?_, ho, by omega, by omega⟩
        rw [hb]
        first
          | exact (bar_n (by omega) _ _ _ _).symm
          | (rw [show (σ 75 1 - l).toNat = 0 by omega]
             rfl))
      · refine aw_iload_n G dX10_rankNow_66 rfl ?_
        refine aw_aload_n G dX10_rankNow_67 rfl ?_
        refine gf_X10_7 G dX10_rankNow_68 (kk := ?_)
        rw [e75]
        refine aw_icmp_ge (tgt := 320) G dX10_rankNow_71 (by decide) (by first | omega | exact b01_R _ | exact bP_R _) (by first | omega | exact b01_R _ | exact bP_R _) (fun c71 => ?_) (fun c71 => ?_)
        · refine aw_iload_n G dX10_rankNow_320 rfl ?_
          exact aw_iret G T dX10_rankNow_321 (by
        refine ⟨?_, ho, by omega, by omega⟩
        rw [hb]
        first
          | exact (bar_n (by omega) _ _ _ _).symm
          | (rw [show (σ 75 1 - l).toNat = 0 by omega]
             rfl))
        · refine aw_iload_n G dX10_rankNow_74 rfl ?_
          refine aw_istore_5 G dX10_rankNow_75 (hc := by first | rfl | assumption) (k := ?_)
          have find : ∀ (n1 : Nat) (r : Int), (n ≤ r ∧ r ≤ σ 75 0) → (σ 75 0 < r + (n1 : Int)) → (∀ i : Int, n ≤ i → i < r → A i l = 0) → AW X V (τ) 77 [] [some (rv V 75), some (iv (n)), some (jv (d)), none, some (iv (l)), some (iv r), u6, u7, u8, u9, u10, u11] := by
            intro n1
            induction n1 with
            | zero =>
              intro r h0r h1r hz
              exfalso
              omega
            | succ n1 ih1 =>
              intro r h0r h1r hz
              refine aw_iload G dX10_rankNow_77 rfl ?_
              refine aw_aload_n G dX10_rankNow_79 rfl ?_
              refine gf_X10_7 G dX10_rankNow_80 (kk := ?_)
              rw [e75]
              refine aw_icmp_ge (tgt := 110) G dX10_rankNow_83 (by decide) (by first | omega | exact b01_R _ | exact bP_R _) (by first | omega | exact b01_R _ | exact bP_R _) (fun c83 => ?_) (fun c83 => ?_)
              · refine aw_iload G dX10_rankNow_110 rfl ?_
                refine aw_aload_n G dX10_rankNow_112 rfl ?_
                refine gf_X10_7 G dX10_rankNow_113 (kk := ?_)
                rw [e75]
                refine aw_icmp_ne (tgt := 122) G dX10_rankNow_116 (by decide) (by first | omega | exact b01_R _ | exact bP_R _) (by first | omega | exact b01_R _ | exact bP_R _) (fun c116 => ?_) (fun c116 => ?_)
                · exact absurd c116 (by omega)
                · refine aw_goto (tgt := 314) G dX10_rankNow_119 (by decide) ?_
                  refine aw_iinc_4 G dX10_rankNow_314 rfl (hc := by first | rfl | assumption) (k := ?_)
                  refine aw_goto (tgt := 57) G dX10_rankNow_317 (by decide) ?_
                  refine ih (l + 1) n d A τ _ _ _ _ _ _ _ (by omega) (by omega) ho hI (by omega) hM ?_
                  rw [hb, show (σ 75 1 - l).toNat = (σ 75 1 - (l + 1)).toNat + 1 by omega, bar_no (by omega) (fun i a b => hz i a (by omega))]
              · refine aw_aload_n G dX10_rankNow_86 rfl ?_
                refine gf_X10_62 G dX10_rankNow_87 (kk := ?_)
                refine aw_bipush G dX10_rankNow_90 (k := ?_)
                refine aw_iload G dX10_rankNow_92 rfl ?_
                refine aw_imul G dX10_rankNow_94 ?_
                refine aw_iload G dX10_rankNow_95 rfl ?_
                refine aw_iadd G dX10_rankNow_97 ?_
                refine aw_laload G dX10_rankNow_98 (by first | decide | assumption | omega) (by first | rfl | assumption) (by first | decide | assumption) (by omega) ?_
                rw [hM r l (by omega) (by omega) (by omega) (by omega)]
                have hbr := hbd0.2 r l (by omega) (by omega) (by omega) (by omega)
                rw [ab_le] at hbr
                refine aw_lconst G dX10_rankNow_99 ?_
                change AW X V τ _ [jv (0 : Int), jv (A r l)] _
                refine aw_lcmp G dX10_rankNow_100 (by omega) (by omega) ?_
                refine aw_if_ne (tgt := 110) G dX10_rankNow_101 (by decide) (by (repeat' split) <;> omega) (fun c101 => ?_) (fun c101 => ?_)
                · refine aw_iload G dX10_rankNow_110 rfl ?_
                  refine aw_aload_n G dX10_rankNow_112 rfl ?_
                  refine gf_X10_7 G dX10_rankNow_113 (kk := ?_)
                  rw [e75]
                  refine aw_icmp_ne (tgt := 122) G dX10_rankNow_116 (by decide) (by first | omega | exact b01_R _ | exact bP_R _) (by first | omega | exact b01_R _ | exact bP_R _) (fun c116 => ?_) (fun c116 => ?_)
                  · have hrN : r < σ 75 0 := by omega
                    have hAr : A r l ≠ 0 := fun q => c101 (by rw [q]; rfl)
                    refine aw_iconst G dX10_rankNow_122 ?_
                    refine aw_istore_6 G dX10_rankNow_123 (hc := by first | rfl | assumption) (k := ?_)
                    have swap : ∀ (n2 : Nat) (k : Int) (τ1 : St) (u7 : Option Value) (u8 : Option Value), (0 ≤ k ∧ k ≤ σ 75 1) → (σ 75 1 < k + (n2 : Int)) → (Only [92] σ τ1) → (∀ s j : Int, n ≤ s → s < σ 75 0 → 0 ≤ j → j < σ 75 1 → τ1 92 (8 * s + j) = if j < k then A (swi n r s) j else A s j) → AW X V (τ1) 125 [] [some (rv V 75), some (iv (n)), some (jv (d)), none, some (iv (l)), some (iv r), some (iv k), u7, u8, u9, u10, u11] := by
                      intro n2
                      induction n2 with
                      | zero =>
                        intro k τ1 u7 u8 g0 g1 go gM
                        exfalso
                        omega
                      | succ n2 ih2 =>
                        intro k τ1 u7 u8 g0 g1 go gM
                        have e75 : τ1 75 = σ 75 := go 75 (by decide)
                        refine aw_iload G dX10_rankNow_125 rfl ?_
                        refine aw_aload_n G dX10_rankNow_127 rfl ?_
                        refine gf_X10_82 G dX10_rankNow_128 (kk := ?_)
                        rw [e75]
                        refine aw_icmp_ge (tgt := 194) G dX10_rankNow_131 (by decide) (by first | omega | exact b01_R _ | exact bP_R _) (by first | omega | exact b01_R _ | exact bP_R _) (fun c131 => ?_) (fun c131 => ?_)
                        · obtain ⟨A1, hA1⟩ : ∃ B : Int → Int → Int, B = fun s => A (swi n r s) := ⟨_, rfl⟩
                          have hA2 : ∀ s j : Int, A1 s j = A (swi n r s) j := fun s j => by rw [hA1]
                          have gM1 : ∀ s j : Int, n ≤ s → s < σ 75 0 → 0 ≤ j → j < σ 75 1 → τ1 92 (8 * s + j) = A1 s j := fun s j s0 s1 j0 j1 => by rw [hA2, gM s j s0 s1 j0 j1, if_pos (by omega)]
                          obtain ⟨K, g, h, x, e, e', hI⟩ := hI
                          have hI1 := rk_sw hI ⟨h0r.1, hrN⟩
                          rw [← hA1] at hI1
                          have hbd := rk_bd hw hI1
                          have hd0 : d ≠ 0 := hI.2.1
                          have hnN : n < σ 75 0 := by omega
                          have hpe : A1 n l = A r l := by rw [hA2, swi_n]
                          have hpz : A1 n l ≠ 0 := by rw [hpe]; exact hAr
                          obtain ⟨-, K2, g2, h2, x2, f2, f2', hI2⟩ := rk_pv hw hI1 hnN ⟨by omega, by omega⟩ hpz
                          refine aw_aload_n G dX10_rankNow_194 rfl ?_
                          refine gf_X10_62 G dX10_rankNow_195 (kk := ?_)
                          refine aw_bipush G dX10_rankNow_198 (k := ?_)
                          refine aw_iload_n G dX10_rankNow_200 rfl ?_
                          refine aw_imul G dX10_rankNow_201 ?_
                          refine aw_iload G dX10_rankNow_202 rfl ?_
                          refine aw_iadd G dX10_rankNow_204 ?_
                          refine aw_laload G dX10_rankNow_205 (by first | decide | assumption | omega) (by first | rfl | assumption) (by first | decide | assumption) (by omega) ?_
                          rw [gM1 n l (by omega) (by omega) (by omega) (by omega)]
                          refine aw_lstore_6 G dX10_rankNow_206 (hc := by first | rfl | assumption) (k := ?_)
                          refine aw_iload_n G dX10_rankNow_208 rfl ?_
                          refine aw_iconst G dX10_rankNow_209 ?_
                          refine aw_iadd G dX10_rankNow_210 ?_
                          refine aw_istore_8 G dX10_rankNow_211 (hc := by first | rfl | assumption) (k := ?_)
                          have elim : ∀ (n3 : Nat) (q : Int) (τ2 : St) (u9 : Option Value) (u10 : Option Value) (u11 : Option Value), (n + 1 ≤ q ∧ q ≤ σ 75 0) → (σ 75 0 < q + (n3 : Int)) → (Only [92] σ τ2) → (∀ s j : Int, n ≤ s → s < σ 75 0 → 0 ≤ j → j < σ 75 1 → τ2 92 (8 * s + j) = if n < s ∧ s < q then (pvA n l d A1) s j else A1 s j) → AW X V (τ2) 213 [] [some (rv V 75), some (iv (n)), some (jv (d)), none, some (iv (l)), some (iv r), some (jv (A1 n l)), none, some (iv q), u9, u10, u11] := by
                            intro n3
                            induction n3 with
                            | zero =>
                              intro q τ2 u9 u10 u11 q0 q1 qo qM
                              exfalso
                              omega
                            | succ n3 ih3 =>
                              intro q τ2 u9 u10 u11 q0 q1 qo qM
                              have e75 : τ2 75 = σ 75 := qo 75 (by decide)
                              refine aw_iload G dX10_rankNow_213 rfl ?_
                              refine aw_aload_n G dX10_rankNow_215 rfl ?_
                              refine gf_X10_7 G dX10_rankNow_216 (kk := ?_)
                              rw [e75]
                              refine aw_icmp_ge (tgt := 308) G dX10_rankNow_219 (by decide) (by first | omega | exact b01_R _ | exact bP_R _) (by first | omega | exact b01_R _ | exact bP_R _) (fun c219 => ?_) (fun c219 => ?_)
                              · refine aw_lload G dX10_rankNow_308 rfl ?_
                                refine aw_lstore_2 G dX10_rankNow_310 (hc := by first | rfl | assumption) (k := ?_)
                                refine aw_iinc_1 G dX10_rankNow_311 rfl (hc := by first | rfl | assumption) (k := ?_)
                                refine aw_iinc_4 G dX10_rankNow_314 rfl (hc := by first | rfl | assumption) (k := ?_)
                                refine aw_goto (tgt := 57) G dX10_rankNow_317 (by decide) ?_
                                refine ih (l + 1) (n + 1) (A1 n l) (pvA n l d A1) τ2 _ _ _ _ _ _ _ (by omega) (by omega) qo ⟨_, _, _, _, _, _, hI2⟩ (by omega) (fun s j s0 s1 j0 j1 => ?_) ?_
                                · rw [qM s j (by omega) s1 j0 j1, if_pos (by omega)]
                                · rw [hb, show (σ 75 1 - l).toNat = (σ 75 1 - (l + 1)).toNat + 1 by omega, bar_y h0r.1 hrN hAr hz, hpe, hA1]
                              · refine aw_aload_n G dX10_rankNow_222 rfl ?_
                                refine gf_X10_62 G dX10_rankNow_223 (kk := ?_)
                                refine aw_bipush G dX10_rankNow_226 (k := ?_)
                                refine aw_iload G dX10_rankNow_228 rfl ?_
                                refine aw_imul G dX10_rankNow_230 ?_
                                refine aw_iload G dX10_rankNow_231 rfl ?_
                                refine aw_iadd G dX10_rankNow_233 ?_
                                refine aw_laload G dX10_rankNow_234 (by first | decide | assumption | omega) (by first | rfl | assumption) (by first | decide | assumption) (by omega) ?_
                                rw [qM q l (by omega) (by omega) (by omega) (by omega), if_neg (by omega)]
                                refine aw_lstore_9 G dX10_rankNow_235 (hc := by first | rfl | assumption) (k := ?_)
                                refine aw_iconst G dX10_rankNow_237 ?_
                                refine aw_istore_11 G dX10_rankNow_238 (hc := by first | rfl | assumption) (k := ?_)
                                have inner : ∀ (n4 : Nat) (k : Int) (τ3 : St), (0 ≤ k ∧ k ≤ σ 75 1) → (σ 75 1 < k + (n4 : Int)) → (Only [92] σ τ3) → (∀ s j : Int, n ≤ s → s < σ 75 0 → 0 ≤ j → j < σ 75 1 → τ3 92 (8 * s + j) = if n < s ∧ (s < q ∨ (s = q ∧ j < k)) then (pvA n l d A1) s j else A1 s j) → AW X V (τ3) 240 [] [some (rv V 75), some (iv (n)), some (jv (d)), none, some (iv (l)), some (iv r), some (jv (A1 n l)), none, some (iv q), some (jv (A1 q l)), none, some (iv k)] := by
                                  intro n4
                                  induction n4 with
                                  | zero =>
                                    intro k τ3 k0 k1 ko kM
                                    exfalso
                                    omega
                                  | succ n4 ih4 =>
                                    intro k τ3 k0 k1 ko kM
                                    have e75 : τ3 75 = σ 75 := ko 75 (by decide)
                                    refine aw_iload G dX10_rankNow_240 rfl ?_
                                    refine aw_aload_n G dX10_rankNow_242 rfl ?_
                                    refine gf_X10_82 G dX10_rankNow_243 (kk := ?_)
                                    rw [e75]
                                    refine aw_icmp_ge (tgt := 302) G dX10_rankNow_246 (by decide) (by first | omega | exact b01_R _ | exact bP_R _) (by first | omega | exact b01_R _ | exact bP_R _) (fun c246 => ?_) (fun c246 => ?_)
                                    · refine aw_iinc_8 G dX10_rankNow_302 rfl (hc := by first | rfl | assumption) (k := ?_)
                                      refine aw_goto (tgt := 213) G dX10_rankNow_305 (by decide) ?_
                                      refine ih3 (q + 1) τ3 _ _ _ (by omega) (by omega) ko (fun s j s0 s1 j0 j1 => ?_)
                                      rw [kM s j s0 s1 j0 j1]
                                      by_cases e4 : n < s ∧ (s < q ∨ (s = q ∧ j < k))
                                      · rw [if_pos e4, if_pos (by omega)]
                                      · rw [if_neg e4, if_neg (by omega)]
                                    · refine aw_aload_n G dX10_rankNow_249 rfl ?_
                                      refine gf_X10_62 G dX10_rankNow_250 (kk := ?_)
                                      refine aw_bipush G dX10_rankNow_253 (k := ?_)
                                      refine aw_iload G dX10_rankNow_255 rfl ?_
                                      refine aw_imul G dX10_rankNow_257 ?_
                                      refine aw_iload G dX10_rankNow_258 rfl ?_
                                      refine aw_iadd G dX10_rankNow_260 ?_
                                      refine aw_aload_n G dX10_rankNow_261 rfl ?_
                                      refine gf_X10_62 G dX10_rankNow_262 (kk := ?_)
                                      refine aw_bipush G dX10_rankNow_265 (k := ?_)
                                      refine aw_iload G dX10_rankNow_267 rfl ?_
                                      refine aw_imul G dX10_rankNow_269 ?_
                                      refine aw_iload G dX10_rankNow_270 rfl ?_
                                      refine aw_iadd G dX10_rankNow_272 ?_
                                      refine aw_laload G dX10_rankNow_273 (by first | decide | assumption | omega) (by first | rfl | assumption) (by first | decide | assumption) (by omega) ?_
                                      rw [kM q k (by omega) (by omega) (by omega) (by omega), if_neg (by omega)]
                                      refine aw_lload G dX10_rankNow_274 rfl ?_
                                      refine aw_lmul G dX10_rankNow_276 ?_
                                      refine aw_aload_n G dX10_rankNow_277 rfl ?_
                                      refine gf_X10_62 G dX10_rankNow_278 (kk := ?_)
                                      refine aw_bipush G dX10_rankNow_281 (k := ?_)
                                      refine aw_iload_n G dX10_rankNow_283 rfl ?_
                                      refine aw_imul G dX10_rankNow_284 ?_
                                      refine aw_iload G dX10_rankNow_285 rfl ?_
                                      refine aw_iadd G dX10_rankNow_287 ?_
                                      refine aw_laload G dX10_rankNow_288 (by first | decide | assumption | omega) (by first | rfl | assumption) (by first | decide | assumption) (by omega) ?_
                                      rw [kM n k (by omega) (by omega) (by omega) (by omega), if_neg (by omega)]
                                      refine aw_lload G dX10_rankNow_289 rfl ?_
                                      refine aw_lmul G dX10_rankNow_291 ?_
                                      refine aw_lsub G dX10_rankNow_292 ?_
                                      refine aw_lload_n G dX10_rankNow_293 rfl ?_
                                      refine aw_ldiv G dX10_rankNow_294 (by have hz := ab_R (hbd.2 q k (by omega) (by omega) (by omega) (by omega)) (hbd.2 n l (by omega) (by omega) (by omega) (by omega)) (hbd.2 n k (by omega) (by omega) (by omega) (by omega)) (hbd.2 q l (by omega) (by omega) (by omega) (by omega)) (by decide); rw [ab_le] at hz; omega) (by have hz := hbd.1; rw [ab_le] at hz; exact ⟨by omega, hd0⟩) ?_
                                      refine aw_lastore G dX10_rankNow_295 (by first | decide | assumption | omega) (by first | rfl | assumption) (by first | decide | assumption) (by omega) ?_
                                      refine aw_iinc_11 G dX10_rankNow_296 rfl (hc := by first | rfl | assumption) (k := ?_)
                                      refine aw_goto (tgt := 240) G dX10_rankNow_299 (by decide) ?_
                                      refine ih4 (k + 1) _ (by omega) (by omega) (ko.up (by decide)) (fun s j s0 s1 j0 j1 => ?_)
                                      by_cases e1 : s = q ∧ j = k
                                      · obtain ⟨e2, e3⟩ := e1
                                        rw [e2, e3, up_at, if_pos (by omega)]
                                        unfold pvA
                                        rw [if_pos (by omega)]
                                      · rw [up_nj (by omega), kM s j s0 s1 j0 j1]
                                        by_cases e4 : n < s ∧ (s < q ∨ (s = q ∧ j < k))
                                        · rw [if_pos e4, if_pos (by omega)]
                                        · rw [if_neg e4, if_neg (by omega)]
                                exact inner ((σ 75 1).toNat + 1) 0 τ2 (by omega) (by omega) qo (fun s j s0 s1 j0 j1 => by
                                  rw [qM s j s0 s1 j0 j1]
                                  by_cases e4 : n < s ∧ s < q
                                  · rw [if_pos e4, if_pos (by omega)]
                                  · rw [if_neg e4, if_neg (by omega)])
                          exact elim ((σ 75 0).toNat + 1) (n + 1) τ1 _ _ _ (by omega) (by omega) go (fun s j s0 s1 j0 j1 => by rw [gM1 s j s0 s1 j0 j1, if_neg (by omega)])
                        · refine aw_aload_n G dX10_rankNow_134 rfl ?_
                          refine gf_X10_62 G dX10_rankNow_135 (kk := ?_)
                          refine aw_bipush G dX10_rankNow_138 (k := ?_)
                          refine aw_iload G dX10_rankNow_140 rfl ?_
                          refine aw_imul G dX10_rankNow_142 ?_
                          refine aw_iload G dX10_rankNow_143 rfl ?_
                          refine aw_iadd G dX10_rankNow_145 ?_
                          refine aw_laload G dX10_rankNow_146 (by first | decide | assumption | omega) (by first | rfl | assumption) (by first | decide | assumption) (by omega) ?_
                          rw [gM r k (by omega) (by omega) (by omega) (by omega), if_neg (by omega)]
                          refine aw_lstore_7 G dX10_rankNow_147 (hc := by first | rfl | assumption) (k := ?_)
                          refine aw_aload_n G dX10_rankNow_149 rfl ?_
                          refine gf_X10_62 G dX10_rankNow_150 (kk := ?_)
                          refine aw_bipush G dX10_rankNow_153 (k := ?_)
                          refine aw_iload G dX10_rankNow_155 rfl ?_
                          refine aw_imul G dX10_rankNow_157 ?_
                          refine aw_iload G dX10_rankNow_158 rfl ?_
                          refine aw_iadd G dX10_rankNow_160 ?_
                          refine aw_aload_n G dX10_rankNow_161 rfl ?_
                          refine gf_X10_62 G dX10_rankNow_162 (kk := ?_)
                          refine aw_bipush G dX10_rankNow_165 (k := ?_)
                          refine aw_iload_n G dX10_rankNow_167 rfl ?_
                          refine aw_imul G dX10_rankNow_168 ?_
                          refine aw_iload G dX10_rankNow_169 rfl ?_
                          refine aw_iadd G dX10_rankNow_171 ?_
                          refine aw_laload G dX10_rankNow_172 (by first | decide | assumption | omega) (by first | rfl | assumption) (by first | decide | assumption) (by omega) ?_
                          rw [gM n k (by omega) (by omega) (by omega) (by omega), if_neg (by omega)]
                          refine aw_lastore G dX10_rankNow_173 (by first | decide | assumption | omega) (by first | rfl | assumption) (by first | decide | assumption) (by omega) ?_
                          refine aw_aload_n G dX10_rankNow_174 rfl ?_
                          refine gf_X10_62 G dX10_rankNow_175 (kk := ?_)
                          refine aw_bipush G dX10_rankNow_178 (k := ?_)
                          refine aw_iload_n G dX10_rankNow_180 rfl ?_
                          refine aw_imul G dX10_rankNow_181 ?_
                          refine aw_iload G dX10_rankNow_182 rfl ?_
                          refine aw_iadd G dX10_rankNow_184 ?_
                          refine aw_lload G dX10_rankNow_185 rfl ?_
                          refine aw_lastore G dX10_rankNow_187 (by first | decide | assumption | omega) (by first | rfl | assumption) (by first | decide | assumption) (by omega) ?_
                          refine aw_iinc_6 G dX10_rankNow_188 rfl (hc := by first | rfl | assumption) (k := ?_)
                          refine aw_goto (tgt := 125) G dX10_rankNow_191 (by decide) ?_
                          refine ih2 (k + 1) _ _ _ (by omega) (by omega) ((go.up (by decide)).up (by decide)) (fun s j s0 s1 j0 j1 => ?_)
                          by_cases e1 : j = k
                          · rw [if_pos (by omega), e1]
                            by_cases e2 : s = n
                            · rw [e2, up_at, swi_n]
                            · rw [up_nj (by omega)]
                              by_cases e3 : s = r
                              · rw [e3, up_at, swi_r]
                              · rw [up_nj (by omega), gM s k s0 s1 (by omega) (by omega), if_neg (by omega), swi_o e2 e3]
                          · rw [up_nj (by omega), up_nj (by omega), gM s j s0 s1 j0 j1]
                            by_cases e4 : j < k
                            · rw [if_pos e4, if_pos (by omega)]
                            · rw [if_neg e4, if_neg (by omega)]
                    exact swap ((σ 75 1).toNat + 1) 0 τ _ _ (by omega) (by omega) ho (fun s j s0 s1 j0 j1 => by rw [hM s j s0 s1 j0 j1, if_neg (by omega)])
                  · exact absurd c116 (by omega)
                · refine aw_iinc_5 G dX10_rankNow_104 rfl (hc := by first | rfl | assumption) (k := ?_)
                  refine aw_goto (tgt := 77) G dX10_rankNow_107 (by decide) ?_
                  refine ih1 (r + 1) (by omega) (by omega) (fun i a b => ?_)
                  by_cases e : i = r
                  · rw [e]
                    revert c101
                    (repeat' split) <;> omega
                  · exact hz i a (by omega)
          exact find ((σ 75 0).toNat + 1) n (by omega) (by omega) (fun i a b => by omega)
  have lay : ∀ (n0 : Nat) (p : Int) (τ : St) (u2 : Option Value) (u3 : Option Value) (u4 : Option Value) (u5 : Option Value) (u6 : Option Value) (u7 : Option Value) (u8 : Option Value) (u9 : Option Value) (u10 : Option Value) (u11 : Option Value), (0 ≤ p ∧ p ≤ σ 75 0) → (σ 75 0 < p + (n0 : Int)) → (Only [92] σ τ) → (∀ s j : Int, 0 ≤ s → s < p → 0 ≤ j → j < σ 75 1 → τ 92 (8 * s + j) = nwt σ 75 s j) → AW X V (τ) 2 [] [some (rv V 75), some (iv p), u2, u3, u4, u5, u6, u7, u8, u9, u10, u11] := by
    intro n0
    induction n0 with
    | zero =>
      intro p τ u2 u3 u4 u5 u6 u7 u8 u9 u10 u11 h0 h1 ho hq
      exfalso
      omega
    | succ n0 ih =>
      intro p τ u2 u3 u4 u5 u6 u7 u8 u9 u10 u11 h0 h1 ho hq
      have e75 : τ 75 = σ 75 := ho 75 (by decide)
      refine aw_iload_n G dX10_rankNow_2 rfl ?_
      refine aw_aload_n G dX10_rankNow_3 rfl ?_
      refine gf_X10_7 G dX10_rankNow_4 (kk := ?_)
      rw [e75]
      refine aw_icmp_ge (tgt := 50) G dX10_rankNow_7 (by decide) (by first | omega | exact b01_R _ | exact bP_R _) (by first | omega | exact b01_R _ | exact bP_R _) (fun c7 => ?_) (fun c7 => ?_)
      · refine aw_iconst G dX10_rankNow_50 ?_
        refine aw_istore_1 G dX10_rankNow_51 (hc := by first | rfl | assumption) (k := ?_)
        refine aw_lconst G dX10_rankNow_52 ?_
        refine aw_lstore_2 G dX10_rankNow_53 (hc := by first | rfl | assumption) (k := ?_)
        refine aw_iconst G dX10_rankNow_54 ?_
        refine aw_istore_4 G dX10_rankNow_55 (hc := by first | rfl | assumption) (k := ?_)
        exact main ((σ 75 1).toNat + 1) 0 0 1 (nwt σ 75) τ _ _ _ _ _ _ _ (by omega) (by omega) ho ⟨_, _, _, _, _, _, hI0⟩ (by omega) (fun s j s0 s1 j0 j1 => hq s j s0 (by omega) j0 j1) (by unfold rkN; rw [show σ 75 1 - 0 = σ 75 1 by omega])
      · refine aw_iconst G dX10_rankNow_10 ?_
        refine aw_istore_2 G dX10_rankNow_11 (hc := by first | rfl | assumption) (k := ?_)
        have lay2 : ∀ (n1 : Nat) (i : Int) (τ : St), (0 ≤ i ∧ i ≤ σ 75 1) → (σ 75 1 < i + (n1 : Int)) → (Only [92] σ τ) → (∀ s j : Int, 0 ≤ s → 0 ≤ j → j < σ 75 1 → s < p ∨ (s = p ∧ j < i) → τ 92 (8 * s + j) = nwt σ 75 s j) → AW X V (τ) 12 [] [some (rv V 75), some (iv p), some (iv i), u3, u4, u5, u6, u7, u8, u9, u10, u11] := by
          intro n1
          induction n1 with
          | zero =>
            intro i τ g0 g1 go gq
            exfalso
            omega
          | succ n1 ih1 =>
            intro i τ g0 g1 go gq
            have e75 : τ 75 = σ 75 := go 75 (by decide)
            refine aw_iload_n G dX10_rankNow_12 rfl ?_
            refine aw_aload_n G dX10_rankNow_13 rfl ?_
            refine gf_X10_82 G dX10_rankNow_14 (kk := ?_)
            rw [e75]
            refine aw_icmp_ge (tgt := 44) G dX10_rankNow_17 (by decide) (by first | omega | exact b01_R _ | exact bP_R _) (by first | omega | exact b01_R _ | exact bP_R _) (fun c17 => ?_) (fun c17 => ?_)
            · refine aw_iinc_1 G dX10_rankNow_44 rfl (hc := by first | rfl | assumption) (k := ?_)
              refine aw_goto (tgt := 2) G dX10_rankNow_47 (by decide) ?_
              exact ih (p + 1) τ _ _ _ _ _ _ _ _ _ _ (by omega) (by omega) go (fun s j s0 s1 j0 j1 => gq s j s0 j0 j1 (by omega))
            · refine aw_aload_n G dX10_rankNow_20 rfl ?_
              refine gf_X10_62 G dX10_rankNow_21 (kk := ?_)
              refine aw_bipush G dX10_rankNow_24 (k := ?_)
              refine aw_iload_n G dX10_rankNow_26 rfl ?_
              refine aw_imul G dX10_rankNow_27 ?_
              refine aw_iload_n G dX10_rankNow_28 rfl ?_
              refine aw_iadd G dX10_rankNow_29 ?_
              refine aw_aload_n G dX10_rankNow_30 rfl ?_
              refine aw_iload_n G dX10_rankNow_31 rfl ?_
              refine aw_iload_n G dX10_rankNow_32 rfl ?_
              refine cv_X10_137 G dX10_rankNow_33 (c_X10_weight (by omega) (by omega) (NetOK.only go (by decide) hN).2.2.2.2.1) (kk := fun r33 t33 h33 => ?_)
              obtain ⟨rfl, ee33⟩ := h33
              obtain rfl := ee33.symm
              refine aw_i2l G dX10_rankNow_36 (by have hz := nwt_only (τ := τ) (σ := σ) go (by decide); rw [hz]; have hy := nwt_R (σ := σ) (b := 75) (p := p) (l := i) (by have := n5 i (by omega) (by omega); omega); omega) ?_
              refine aw_lastore G dX10_rankNow_37 (by first | decide | assumption | omega) (by first | rfl | assumption) (by first | decide | assumption) (by omega) ?_
              refine aw_iinc_2 G dX10_rankNow_38 rfl (hc := by first | rfl | assumption) (k := ?_)
              refine aw_goto (tgt := 12) G dX10_rankNow_41 (by decide) ?_
              rw [nwt_only go (by decide)]
              refine ih1 (i + 1) _ (by omega) (by omega) (go.up (by decide)) (fun s j s0 j0 j1 q => ?_)
              by_cases e : s = p ∧ j = i
              · rw [e.1, e.2, up_at]
              · rw [up_nj (by omega)]
                exact gq s j s0 j0 j1 (by omega)
        exact lay2 ((σ 75 1).toNat + 1) 0 τ (by omega) (by omega) ho (fun s j s0 j0 j1 q => hq s j s0 (by omega) j0 j1)
  refine aw_iconst G dX10_rankNow_0 ?_
  refine aw_istore_1 G dX10_rankNow_1 (hc := by first | rfl | assumption) (k := ?_)
  exact lay ((σ 75 0).toNat + 1) 0 σ _ _ _ _ _ _ _ _ _ _ (by omega) (by omega) (fun _ _ => rfl) (fun s j s0 s1 j0 j1 => by omega)
theorem ME_S {σ τ : St} (h : Only [92] σ τ) : ME τ σ := ME.only (h.mono (by decide))
set_option maxHeartbeats 4000000 in
theorem c_X10_rank {V : Wd} {σ : St} {a : Int} (h1 : inR a) (hk : OK σ) : Ct V yX10_rank cX10_rank 2 (some .int) 3 74 [rv V 75, iv a] σ (PI (fun r τ => r = an_rank σ a ∧ ME τ (nx_rank σ a))) := by
  refine ct_of (by decide) (Nat.le_of_ble_eq_true rfl) (fun X G T => ?_)
  have G : Gd X V cX10_rank RX10 2 3 74 := G
  show AW X V σ 0 [] [some (rv V 75), some (iv a)]
  obtain ⟨⟨n1, n2, n3, n4, n5, n6⟩, u1, l1, l2, i1, s1, w1⟩ := id hk
  refine aw_iload_n G dX10_rank_0 rfl ?_
  refine aw_iconst G dX10_rank_1 ?_
  refine aw_iconst G dX10_rank_2 ?_
  refine cs_X10_78 G dX10_rank_3 (c_X10_in (by first | assumption | omega) (by first | assumption | omega) (by first | assumption | omega)) (kk := fun r3 t3 h3 => ?_)
  obtain ⟨rfl, ee3⟩ := h3
  obtain rfl := ee3.symm
  refine aw_if_ne (tgt := 18) G dX10_rank_6 (by decide) (by first | omega | exact b01_R _ | exact bP_R _) (fun c6 => ?_) (fun c6 => ?_)
  · try simp only [b01_0, b01_n, bP_0, bP_n, Classical.not_not] at c6
    refine aw_iload_n G dX10_rank_18 rfl ?_
    refine aw_if_ne (tgt := 29) G dX10_rank_19 (by decide) (by first | omega | exact b01_R _ | exact bP_R _) (fun c19 => ?_) (fun c19 => ?_)
    · try simp only [b01_0, b01_n, bP_0, bP_n, Classical.not_not] at c19
      refine aw_aload_n G dX10_rank_29 rfl ?_
      refine gf_X10_82 G dX10_rank_30 (kk := ?_)
      refine aw_aload_n G dX10_rank_33 rfl ?_
      refine cv_X10_230 G dX10_rank_34 (c_X10_rankNow hk.1) (kk := fun r34 t34 h34 => ?_)
      obtain ⟨rfl, ho34, hr34⟩ := h34
      refine aw_isub G dX10_rank_37 ?_
      exact aw_iret G T dX10_rank_38 (by
    first
      | exact ⟨by unfold an_rank; rw [if_pos (by omega)], by unfold nx_rank; rw [if_pos (by omega)]; exact ME.rf _⟩
      | exact ⟨by unfold an_rank; rw [if_neg (by omega), if_pos (by omega)], by unfold nx_rank; rw [if_neg (by omega)]; exact ME_S ho23⟩
      | exact ⟨by unfold an_rank; rw [if_neg (by omega), if_neg (by omega)], by unfold nx_rank; rw [if_neg (by omega)]; exact ME_S ho34⟩)
    · try simp only [b01_0, b01_n, bP_0, bP_n, Classical.not_not] at c19
      refine aw_aload_n G dX10_rank_22 rfl ?_
      refine cv_X10_230 G dX10_rank_23 (c_X10_rankNow hk.1) (kk := fun r23 t23 h23 => ?_)
      obtain ⟨rfl, ho23, hr23⟩ := h23
      refine aw_goto (tgt := 38) G dX10_rank_26 (by decide) ?_
      exact aw_iret G T dX10_rank_38 (by
    first
      | exact ⟨by unfold an_rank; rw [if_pos (by omega)], by unfold nx_rank; rw [if_pos (by omega)]; exact ME.rf _⟩
      | exact ⟨by unfold an_rank; rw [if_neg (by omega), if_pos (by omega)], by unfold nx_rank; rw [if_neg (by omega)]; exact ME_S ho23⟩
      | exact ⟨by unfold an_rank; rw [if_neg (by omega), if_neg (by omega)], by unfold nx_rank; rw [if_neg (by omega)]; exact ME_S ho34⟩)
  · try simp only [b01_0, b01_n, bP_0, bP_n, Classical.not_not] at c6
    refine aw_aload_n G dX10_rank_9 rfl ?_
    refine aw_bipush G dX10_rank_10 (k := ?_)
    refine cv_X10_87 G dX10_rank_12 (c_X10_refused (by decide)) (kk := fun r12 t12 h12 => ?_)
    obtain ⟨rfl, ee12⟩ := h12
    obtain rfl := ee12.symm
    refine aw_goto (tgt := 38) G dX10_rank_15 (by decide) ?_
    exact aw_iret G T dX10_rank_38 (by
    first
      | exact ⟨by unfold an_rank; rw [if_pos (by omega)], by unfold nx_rank; rw [if_pos (by omega)]; exact ME.rf _⟩
      | exact ⟨by unfold an_rank; rw [if_neg (by omega), if_pos (by omega)], by unfold nx_rank; rw [if_neg (by omega)]; exact ME_S ho23⟩
      | exact ⟨by unfold an_rank; rw [if_neg (by omega), if_neg (by omega)], by unfold nx_rank; rw [if_neg (by omega)]; exact ME_S ho34⟩)

