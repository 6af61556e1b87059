theorem givesP_t {α : St} {l : Int} (h : givesP α l) (x y : Int) : @ite Int (givesP α l) (Classical.propDecidable _) x y = x := @if_pos _ (Classical.propDecidable _) h _ _ _
theorem givesP_f {α : St} {l : Int} (h : ¬ givesP α l) (x y : Int) : @ite Int (givesP α l) (Classical.propDecidable _) x y = y := @if_neg _ (Classical.propDecidable _) h _ _ _
theorem givesP_ts {α : St} {l : Int} (h : givesP α l) (x y : St) : @ite St (givesP α l) (Classical.propDecidable _) x y = x := @if_pos _ (Classical.propDecidable _) h _ _ _
theorem givesP_fs {α : St} {l : Int} (h : ¬ givesP α l) (x y : St) : @ite St (givesP α l) (Classical.propDecidable _) x y = y := @if_neg _ (Classical.propDecidable _) h _ _ _
set_option maxHeartbeats 4000000 in
theorem c_X10_gives {V : Wd} {σ : St} {l : Int} (h1 : inR l) (hk : OK σ) : Ct V yX10_gives cX10_gives 4 (some .int) 2 42 [rv V 75, iv l] σ (PI (fun r τ => r = an_gives σ l ∧ τ = nx_gives σ l)) := by
  refine ct_of (by decide) (Nat.le_of_ble_eq_true rfl) (fun X G T => ?_)
  have G : Gd X V cX10_gives RX10 4 2 42 := G
  show AW X V σ 0 [] [some (rv V 75), some (iv l), none, none]
  obtain ⟨⟨n1, n2, n3, n4, n5, n6⟩, u1, l1, l2, i1, s1, w1⟩ := id hk
  have last : (0 ≤ l ∧ l ≤ 2) → 0 ≤ σ 85 l → givesP σ l → ∀ (u : Option Value) (v : Option Value), lcat u = 1 → lcat v = 1 → AW X V σ 93 [] [some (rv V 75), some (iv l), u, v] := by
    intro hl hs0 hg u v hu hv
    have hs := s1 l (by omega) (by omega)
    have loop : ∀ (n0 : Nat) (i : Int), (0 ≤ i ∧ i ≤ σ 75 1) → (σ 75 1 < i + (n0 : Int)) → AW X V (fill (canU σ) 80 i (fun k => σ 86 (40 * l + k))) 99 [] [some (rv V 75), some (iv l), u, some (iv i)] := by
      intro n0
      induction n0 with
      | zero =>
        intro i h0 h3
        exfalso
        omega
      | succ n0 ih =>
        intro i h0 h3
        refine aw_iload_n G dX10_gives_99 rfl ?_
        refine aw_aload_n G dX10_gives_100 rfl ?_
        refine gf_X10_82 G dX10_gives_101 (kk := ?_)
        rw [fill_o (show (75:Nat) ≠ 80 by decide), canU_f (by decide)]
        refine aw_icmp_ge (tgt := 130) G dX10_gives_104 (by decide) (by first | omega | exact b01_R _ | exact bP_R _) (by first | omega | exact b01_R _ | exact bP_R _) (fun c104 => ?_) (fun c104 => ?_)
        · refine aw_aload_n G dX10_gives_130 rfl ?_
          refine gf_X10_82 G dX10_gives_131 (kk := ?_)
          rw [fill_o (show (75:Nat) ≠ 80 by decide), canU_f (by decide)]
          exact aw_iret G T dX10_gives_134 (⟨by unfold an_gives; rw [if_neg (by omega), if_neg (by omega), givesP_t hg], by unfold nx_gives; rw [if_neg (by omega), if_neg (by omega), givesP_ts hg, show i = σ 75 1 by omega]; rfl⟩)
        · refine aw_aload_n G dX10_gives_107 rfl ?_
          refine gf_X10_26 G dX10_gives_108 (kk := ?_)
          refine aw_iload_n G dX10_gives_111 rfl ?_
          refine aw_aload_n G dX10_gives_112 rfl ?_
          refine gf_X10_44 G dX10_gives_113 (kk := ?_)
          refine aw_bipush G dX10_gives_116 (k := ?_)
          refine aw_iload_n G dX10_gives_118 rfl ?_
          refine aw_imul G dX10_gives_119 ?_
          refine aw_iload_n G dX10_gives_120 rfl ?_
          refine aw_iadd G dX10_gives_121 ?_
          refine aw_iaload G dX10_gives_122 (by first | decide | assumption | omega) (by first | rfl | assumption) (by first | decide | assumption) (by omega) ?_
          rw [fill_o (show (86:Nat) ≠ 80 by decide), canU_r (show (86:Nat) ≠ 81 ∧ (86:Nat) ≠ 82 ∧ (86:Nat) ≠ 83 ∧ (86:Nat) ≠ 75 by decide)]
          refine aw_iastore G dX10_gives_123 (by first | decide | assumption | omega) (by first | rfl | assumption) (by first | decide | assumption) (by omega) ?_
          refine aw_iinc_3 G dX10_gives_124 rfl (hc := by first | rfl | assumption) (k := ?_)
          refine aw_goto (tgt := 99) G dX10_gives_127 (by decide) ?_
          rw [show up (fill (canU σ) 80 i (fun k => σ 86 (40 * l + k))) 80 i (σ 86 (40 * l + i)) = fill (canU σ) 80 (i + 1) (fun k => σ 86 (40 * l + k)) from fill_s (f := fun k => σ 86 (40 * l + k)) (by omega)]
          exact ih (i + 1) (by omega) (by omega)
    refine aw_aload_n G dX10_gives_93 rfl ?_
    refine cv_X10_128 G dX10_gives_94 (c_X10_canBeUndone (by omega)) (kk := fun t94 h94 => ?_)
    obtain rfl := h94.symm
    refine aw_iconst G dX10_gives_97 ?_
    refine aw_istore_3 G dX10_gives_98 (hc := by first | rfl | assumption) (k := ?_)
    have := loop ((σ 75 1).toNat + 1) 0 (by omega) (by omega)
    rw [fill_0] at this
    exact this
  have mid : (0 ≤ l ∧ l ≤ 2) → 0 ≤ σ 85 l → ∀ P0 : Prop, (P0 ↔ σ 85 l = σ 75 1) → ∀ (v : Option Value), lcat v = 1 → AW X V σ 44 [] [some (rv V 75), some (iv l), some (iv (bP P0)), v] := by
    intro hl hs0 P0 hP0 v hv
    have hs := s1 l (by omega) (by omega)
    have exit_ : ∀ (i : Int) (Q : Prop), 0 ≤ i → i ≤ σ 75 1 → (Q ↔ σ 85 l = σ 75 1 ∧ ∀ j, 0 ≤ j → j < i → 0 ≤ σ 86 (40 * l + j) ∧ σ 86 (40 * l + j) ≤ 99) → (Q → i = σ 75 1) → AW X V σ 82 [] [some (rv V 75), some (iv l), some (iv (bP Q)), some (iv i)] := by
      intro i Q i0 i1 hQ hE
      refine aw_iload_n G dX10_gives_82 rfl ?_
      refine aw_if_ne (tgt := 93) G dX10_gives_83 (by decide) (bP_R _) (fun c83 => ?_) (fun c83 => ?_)
      · try simp only [b01_0, b01_n, bP_0, bP_n, Classical.not_not] at c83
        have hg : givesP σ l := ⟨(hQ.mp c83).1, fun j a b => (hQ.mp c83).2 j a (by have := hE (hQ.mpr ⟨(hQ.mp c83).1, fun j a b => (hQ.mp c83).2 j a b⟩); omega)⟩
        exact last hl hs0 hg _ _ rfl rfl
      · try simp only [b01_0, b01_n, bP_0, bP_n, Classical.not_not] at c83
        have hng : ¬ givesP σ l := fun q => c83 (hQ.mpr ⟨q.1, fun j a b => q.2 j a (by omega)⟩)
        refine aw_aload_n G dX10_gives_86 rfl ?_
        refine aw_bipush G dX10_gives_87 (k := ?_)
        refine cv_X10_87 G dX10_gives_89 (c_X10_refused (by decide)) (kk := fun r89 t89 h89 => ?_)
        obtain ⟨rfl, e89⟩ := h89
        obtain rfl := e89.symm
        exact aw_iret G T dX10_gives_92 (⟨by unfold an_gives; rw [if_neg (by omega), if_neg (by omega), givesP_f hng], by unfold nx_gives; rw [if_neg (by omega), if_neg (by omega), givesP_fs hng]⟩)
    have loop : ∀ (n0 : Nat) (i : Int) (Q : Prop), (0 ≤ i ∧ i ≤ σ 75 1) → (σ 75 1 < i + (n0 : Int)) → (Q ↔ σ 85 l = σ 75 1 ∧ ∀ j, 0 ≤ j → j < i → 0 ≤ σ 86 (40 * l + j) ∧ σ 86 (40 * l + j) ≤ 99) → AW X V (σ) 46 [] [some (rv V 75), some (iv l), some (iv (bP Q)), some (iv i)] := by
      intro n0
      induction n0 with
      | zero =>
        intro i Q h0 h3 hQ
        exfalso
        omega
      | succ n0 ih =>
        intro i Q h0 h3 hQ
        refine aw_iload_n G dX10_gives_46 rfl ?_
        refine aw_aload_n G dX10_gives_47 rfl ?_
        refine gf_X10_82 G dX10_gives_48 (kk := ?_)
        refine aw_icmp_ge (tgt := 82) G dX10_gives_51 (by decide) (by first | omega | exact b01_R _ | exact bP_R _) (by first | omega | exact b01_R _ | exact bP_R _) (fun c51 => ?_) (fun c51 => ?_)
        · exact exit_ i Q (by omega) (by omega) hQ (fun q => by first | omega | exact absurd q c55)
        · refine aw_iload_n G dX10_gives_54 rfl ?_
          refine aw_if_eq (tgt := 82) G dX10_gives_55 (by decide) (by first | omega | exact b01_R _ | exact bP_R _) (fun c55 => ?_) (fun c55 => ?_)
          · try simp only [b01_0, b01_n, bP_0, bP_n, Classical.not_not] at c55
            exact exit_ i Q (by omega) (by omega) hQ (fun q => by first | omega | exact absurd q c55)
          · try simp only [b01_0, b01_n, bP_0, bP_n, Classical.not_not] at c55
            refine aw_aload_n G dX10_gives_58 rfl ?_
            refine gf_X10_44 G dX10_gives_59 (kk := ?_)
            refine aw_bipush G dX10_gives_62 (k := ?_)
            refine aw_iload_n G dX10_gives_64 rfl ?_
            refine aw_imul G dX10_gives_65 ?_
            refine aw_iload_n G dX10_gives_66 rfl ?_
            refine aw_iadd G dX10_gives_67 ?_
            refine aw_iaload G dX10_gives_68 (by first | decide | assumption | omega) (by first | rfl | assumption) (by first | decide | assumption) (by omega) ?_
            refine aw_iconst G dX10_gives_69 ?_
            refine aw_bipush G dX10_gives_70 (k := ?_)
            refine cs_X10_78 G dX10_gives_72 (c_X10_in (hs.2.2 i (by omega) (by have := (hQ.mp c55).1; omega)) (by decide) (by decide)) (kk := fun r72 t72 h72 => ?_)
            obtain ⟨rfl, e72⟩ := h72
            obtain rfl := e72.symm
            refine aw_istore_2 G dX10_gives_75 (hc := by first | rfl | assumption) (k := ?_)
            refine aw_iinc_3 G dX10_gives_76 rfl (hc := by first | rfl | assumption) (k := ?_)
            refine aw_goto (tgt := 46) G dX10_gives_79 (by decide) ?_
            have hz := ih (i + 1) (0 ≤ σ 86 (40 * l + i) ∧ σ 86 (40 * l + i) ≤ 99) (by omega) (by omega) ⟨fun q => ⟨(hQ.mp c55).1, fun j a b => if e : j = i then by rw [e]; exact q else (hQ.mp c55).2 j a (by omega)⟩, fun q => q.2 i (by omega) (by omega)⟩
            rw [show bP (0 ≤ σ 86 (40 * l + i) ∧ σ 86 (40 * l + i) ≤ 99) = b01 (0 ≤ σ 86 (40 * l + i) ∧ σ 86 (40 * l + i) ≤ 99) by by_cases q : 0 ≤ σ 86 (40 * l + i) ∧ σ 86 (40 * l + i) ≤ 99 <;> simp [bP_t, bP_f, b01_t, b01_f, q]] at hz
            exact hz
    refine aw_iconst G dX10_gives_44 ?_
    refine aw_istore_3 G dX10_gives_45 (hc := by first | rfl | assumption) (k := ?_)
    exact loop ((σ 75 1).toNat + 1) 0 P0 (by omega) (by omega) (by rw [hP0]; exact ⟨fun q => ⟨q, fun j a b => by omega⟩, fun q => q.1⟩)
  refine aw_iload_n G dX10_gives_0 rfl ?_
  refine cs_X10_251 G dX10_gives_1 (c_X10_isList (by assumption)) (kk := fun r1 t1 h1 => ?_)
  obtain ⟨rfl, e1⟩ := h1
  obtain rfl := e1.symm
  refine aw_if_ne (tgt := 13) G dX10_gives_4 (by decide) (by first | omega | exact b01_R _ | exact bP_R _) (fun c4 => ?_) (fun c4 => ?_)
  · try simp only [b01_0, b01_n, bP_0, bP_n, Classical.not_not] at c4
    have hs := s1 l (by omega) (by omega)
    refine aw_aload_n G dX10_gives_13 rfl ?_
    refine gf_X10_41 G dX10_gives_14 (kk := ?_)
    refine aw_iload_n G dX10_gives_17 rfl ?_
    refine aw_iaload G dX10_gives_18 (by first | decide | assumption | omega) (by first | rfl | assumption) (by first | decide | assumption) (by omega) ?_
    refine aw_if_ge (tgt := 25) G dX10_gives_19 (by decide) (by first | omega | exact b01_R _ | exact bP_R _) (fun c19 => ?_) (fun c19 => ?_)
    · refine aw_aload_n G dX10_gives_25 rfl ?_
      refine gf_X10_41 G dX10_gives_26 (kk := ?_)
      refine aw_iload_n G dX10_gives_29 rfl ?_
      refine aw_iaload G dX10_gives_30 (by first | decide | assumption | omega) (by first | rfl | assumption) (by first | decide | assumption) (by omega) ?_
      refine aw_aload_n G dX10_gives_31 rfl ?_
      refine gf_X10_82 G dX10_gives_32 (kk := ?_)
      refine aw_icmp_ne (tgt := 42) G dX10_gives_35 (by decide) (by first | omega | exact b01_R _ | exact bP_R _) (by first | omega | exact b01_R _ | exact bP_R _) (fun c35 => ?_) (fun c35 => ?_)
      · refine aw_iconst G dX10_gives_42 ?_
        refine aw_istore_2 G dX10_gives_43 (hc := by first | rfl | assumption) (k := ?_)
        first
          | (have hz := mid (by omega) (by omega) True (by simp only [true_iff]; omega) none rfl; rw [bP_t trivial] at hz; exact hz)
          | (have hz := mid (by omega) (by omega) False (by simp only [false_iff]; omega) none rfl; rw [bP_f id] at hz; exact hz)
      · refine aw_iconst G dX10_gives_38 ?_
        refine aw_goto (tgt := 43) G dX10_gives_39 (by decide) ?_
        refine aw_istore_2 G dX10_gives_43 (hc := by first | rfl | assumption) (k := ?_)
        first
          | (have hz := mid (by omega) (by omega) True (by simp only [true_iff]; omega) none rfl; rw [bP_t trivial] at hz; exact hz)
          | (have hz := mid (by omega) (by omega) False (by simp only [false_iff]; omega) none rfl; rw [bP_f id] at hz; exact hz)
    · refine aw_bipush G dX10_gives_22 (k := ?_)
      exact aw_iret G T dX10_gives_24 (⟨by unfold an_gives; (repeat' split) <;> first | rfl | (exfalso; omega) | omega, by unfold nx_gives; (repeat' split) <;> first | rfl | (exfalso; omega) | omega⟩)
  · try simp only [b01_0, b01_n, bP_0, bP_n, Classical.not_not] at c4
    refine aw_aload_n G dX10_gives_7 rfl ?_
    refine aw_iconst G dX10_gives_8 ?_
    refine cv_X10_87 G dX10_gives_9 (c_X10_refused (by decide)) (kk := fun r9 t9 h9 => ?_)
    obtain ⟨rfl, e9⟩ := h9
    obtain rfl := e9.symm
    exact aw_iret G T dX10_gives_12 (⟨by unfold an_gives; (repeat' split) <;> first | rfl | (exfalso; omega) | omega, by unfold nx_gives; (repeat' split) <;> first | rfl | (exfalso; omega) | omega⟩)
theorem ior_R (x y : Int) : inR (ior x y) := ⟨by have := (Int32.ofInt x ||| Int32.ofInt y).le_toInt; unfold ior; omega, by have := (Int32.ofInt x ||| Int32.ofInt y).toInt_lt; unfold ior; omega⟩
theorem ior_0 {x : Int} (h : inR x) : ior x 0 = x := by
  unfold ior
  rw [show Int32.ofInt x ||| Int32.ofInt 0 = Int32.ofInt x by rw [n_0]; exact Int32.or_zero, n_toInt h]
theorem bits_R (f : Int → Int) (n : Int) : ∀ m : Nat, inR (bitsTo f n m)
  | 0 => by unfold bitsTo; decide
  | m + 1 => by
    unfold bitsTo
    by_cases h : ruleP m f n
    · rw [@if_pos _ (Classical.propDecidable _) h]; exact ior_R _ _
    · rw [@if_neg _ (Classical.propDecidable _) h]; exact bits_R f n m
theorem bits_t {f : Int → Int} {n : Int} {m : Nat} (h : ruleP m f n) : bitsTo f n (m + 1) = ior (bitsTo f n m) (ishl 1 m) := @if_pos _ (Classical.propDecidable _) h _ _ _
theorem bits_f {f : Int → Int} {n : Int} {m : Nat} (h : ¬ ruleP m f n) : bitsTo f n (m + 1) = bitsTo f n m := @if_neg _ (Classical.propDecidable _) h _ _ _
theorem bits_c {f g : Int → Int} {n : Int} (h : ∀ i, 0 ≤ i → i < n → f i = g i) : ∀ m : Nat, bitsTo f n m = bitsTo g n m
  | 0 => rfl
  | m + 1 => by
    by_cases q : ruleP m f n
    · rw [bits_t q, bits_t ((ruleP_c h).mp q), bits_c h m]
    · rw [bits_f q, bits_f (fun z => q ((ruleP_c h).mpr z)), bits_c h m]
set_option maxHeartbeats 4000000 in
theorem c_X10_rules {V : Wd} {σ : St} {l : Int} (h1 : inR l) (hk : OK σ) : Ct V yX10_rules cX10_rules 4 (some .int) 3 69 [rv V 75, iv l] σ (PI (fun r τ => r = an_rules σ l ∧ ME τ (nx_rules σ l))) := by
  refine ct_of (by decide) (Nat.le_of_ble_eq_true rfl) (fun X G T => ?_)
  have G : Gd X V cX10_rules RX10 4 3 69 := G
  show AW X V σ 0 [] [some (rv V 75), some (iv l), none, none]
  obtain ⟨⟨n1, n2, n3, n4, n5, n6⟩, u1, l1, l2, i1, s1, w1⟩ := id hk
  have last : (0 ≤ l ∧ l ≤ 2) → 1 ≤ σ 85 l → σ 85 l ≤ 7 → ∀ (v : Option Value), lcat v = 1 → ∀ (u : Option Value), AW X V (fill σ 94 (σ 85 l) (fun i => σ 86 (40 * l + i))) 82 [] [some (rv V 75), some (iv l), v, u] := by
    intro hl hs0 hs7 v hv u
    have hs := s1 l (by omega) (by omega)
    have hRt : ∀ i, 0 ≤ i → i < σ 85 l → inR (fill σ 94 (σ 85 l) (fun i => σ 86 (40 * l + i)) 94 i) := fun i a b => by
      rw [fill_i ⟨a, b⟩]
      exact hs.2.2 i a b
    have hM : ME (fill σ 94 (σ 85 l) (fun i => σ 86 (40 * l + i))) σ := ME.only (fun k hk2 => fill_r (fun e => hk2 (by rw [e]; decide)))
    have hC : ∀ i, 0 ≤ i → i < σ 85 l → fill σ 94 (σ 85 l) (fun i => σ 86 (40 * l + i)) 94 i = (fun i => σ 86 (40 * l + i)) i := fun i a b => fill_i ⟨a, b⟩
    have loop : ∀ (n0 : Nat) (i : Int), (0 ≤ i ∧ i ≤ 6) → (6 < i + (n0 : Int)) → AW X V (fill σ 94 (σ 85 l) (fun i => σ 86 (40 * l + i))) 86 [] [some (rv V 75), some (iv l), some (iv (bitsTo (fun i => σ 86 (40 * l + i)) (σ 85 l) i.toNat)), some (iv i)] := by
      intro n0
      induction n0 with
      | zero =>
        intro i h0 h3
        exfalso
        omega
      | succ n0 ih =>
        intro i h0 h3
        refine aw_iload_n G dX10_rules_86 rfl ?_
        refine aw_bipush G dX10_rules_87 (k := ?_)
        refine aw_icmp_ge (tgt := 125) G dX10_rules_89 (by decide) (by first | omega | exact b01_R _ | exact bP_R _) (by first | omega | exact b01_R _ | exact bP_R _) (fun c89 => ?_) (fun c89 => ?_)
        · refine aw_iload_n G dX10_rules_125 rfl ?_
          exact aw_iret G T dX10_rules_126 (⟨by unfold an_rules; rw [if_neg (by omega), if_neg (by omega), if_neg (by omega), show i.toNat = 6 by omega], by unfold nx_rules; rw [if_neg (by omega), if_neg (by omega), if_neg (by omega)]; exact hM⟩)
        · refine aw_iload_n G dX10_rules_92 rfl ?_
          refine aw_iload_n G dX10_rules_93 rfl ?_
          refine aw_aload_n G dX10_rules_94 rfl ?_
          refine gf_X10_69 G dX10_rules_95 (kk := ?_)
          refine aw_aload_n G dX10_rules_98 rfl ?_
          refine gf_X10_41 G dX10_rules_99 (kk := ?_)
          refine aw_iload_n G dX10_rules_102 rfl ?_
          refine aw_iaload G dX10_rules_103 (by first | decide | assumption | omega) (by first | rfl | assumption) (by first | decide | assumption) (by omega) ?_
          rw [fill_o (show (85:Nat) ≠ 94 by decide)]
          refine cs_X10_164 G dX10_rules_104 (c_X10_isSo (N := 7) (by decide) rfl (by decide) (by omega) hRt (by omega) (by omega)) (kk := fun r104 t104 h104 => ?_)
          obtain ⟨rfl, e104⟩ := h104
          obtain rfl := e104.symm
          refine aw_if_eq (tgt := 116) G dX10_rules_107 (by decide) (bP_R _) (fun c107 => ?_) (fun c107 => ?_)
          · try simp only [b01_0, b01_n, bP_0, bP_n, Classical.not_not] at c107
            refine aw_iconst G dX10_rules_116 ?_
            refine aw_ior G dX10_rules_117 ?_
            refine aw_istore_2 G dX10_rules_118 (hc := by first | rfl | assumption) (k := ?_)
            refine aw_iinc_3 G dX10_rules_119 rfl (hc := by first | rfl | assumption) (k := ?_)
            refine aw_goto (tgt := 86) G dX10_rules_122 (by decide) ?_
            have hz := ih (i + 1) (by omega) (by omega)
            rw [show (i + 1).toNat = i.toNat + 1 by omega] at hz
            rw [show i = ((i.toNat : Nat) : Int) by omega] at c107
            first
              | (rw [bits_f (fun q => c107 ((ruleP_c hC).mpr q))] at hz; rw [ior_0 (bits_R _ _ _)]; exact hz)
              | (rw [bits_t ((ruleP_c hC).mp c107), show ((i.toNat : Nat) : Int) = i by omega] at hz; exact hz)
          · try simp only [b01_0, b01_n, bP_0, bP_n, Classical.not_not] at c107
            refine aw_iconst G dX10_rules_110 ?_
            refine aw_iload_n G dX10_rules_111 rfl ?_
            refine aw_ishl G dX10_rules_112 ?_
            refine aw_goto (tgt := 117) G dX10_rules_113 (by decide) ?_
            refine aw_ior G dX10_rules_117 ?_
            refine aw_istore_2 G dX10_rules_118 (hc := by first | rfl | assumption) (k := ?_)
            refine aw_iinc_3 G dX10_rules_119 rfl (hc := by first | rfl | assumption) (k := ?_)
            refine aw_goto (tgt := 86) G dX10_rules_122 (by decide) ?_
            have hz := ih (i + 1) (by omega) (by omega)
            rw [show (i + 1).toNat = i.toNat + 1 by omega] at hz
            rw [show i = ((i.toNat : Nat) : Int) by omega] at c107
            first
              | (rw [bits_f (fun q => c107 ((ruleP_c hC).mpr q))] at hz; rw [ior_0 (bits_R _ _ _)]; exact hz)
              | (rw [bits_t ((ruleP_c hC).mp c107), show ((i.toNat : Nat) : Int) = i by omega] at hz; exact hz)
    refine aw_iconst G dX10_rules_82 ?_
    refine aw_istore_2 G dX10_rules_83 (hc := by first | rfl | assumption) (k := ?_)
    refine aw_iconst G dX10_rules_84 ?_
    refine aw_istore_3 G dX10_rules_85 (hc := by first | rfl | assumption) (k := ?_)
    exact loop 7 0 (by omega) (by omega)
  have first : ∀ (n0 : Nat) (i : Int) (u : Option Value), (0 ≤ l ∧ l ≤ 2) → (1 ≤ σ 85 l ∧ σ 85 l ≤ 7) → (0 ≤ i ∧ i ≤ σ 85 l) → (σ 85 l < i + (n0 : Int)) → AW X V (fill σ 94 i (fun i => σ 86 (40 * l + i))) 49 [] [some (rv V 75), some (iv l), some (iv i), u] := by
    intro n0
    induction n0 with
    | zero =>
      intro i u hl hs7 h0 h3
      exfalso
      omega
    | succ n0 ih =>
      intro i u hl hs7 h0 h3
      refine aw_iload_n G dX10_rules_49 rfl ?_
      refine aw_aload_n G dX10_rules_50 rfl ?_
      refine gf_X10_41 G dX10_rules_51 (kk := ?_)
      refine aw_iload_n G dX10_rules_54 rfl ?_
      refine aw_iaload G dX10_rules_55 (by first | decide | assumption | omega) (by first | rfl | assumption) (by first | decide | assumption) (by omega) ?_
      rw [fill_o (show (85:Nat) ≠ 94 by decide)]
      refine aw_icmp_ge (tgt := 82) G dX10_rules_56 (by decide) (by first | omega | exact b01_R _ | exact bP_R _) (by first | omega | exact b01_R _ | exact bP_R _) (fun c56 => ?_) (fun c56 => ?_)
      · rw [show i = σ 85 l by omega]
        exact last hl hs7.1 hs7.2 _ rfl _
      · refine aw_aload_n G dX10_rules_59 rfl ?_
        refine gf_X10_69 G dX10_rules_60 (kk := ?_)
        refine aw_iload_n G dX10_rules_63 rfl ?_
        refine aw_aload_n G dX10_rules_64 rfl ?_
        refine gf_X10_44 G dX10_rules_65 (kk := ?_)
        refine aw_bipush G dX10_rules_68 (k := ?_)
        refine aw_iload_n G dX10_rules_70 rfl ?_
        refine aw_imul G dX10_rules_71 ?_
        refine aw_iload_n G dX10_rules_72 rfl ?_
        refine aw_iadd G dX10_rules_73 ?_
        refine aw_iaload G dX10_rules_74 (by first | decide | assumption | omega) (by first | rfl | assumption) (by first | decide | assumption) (by omega) ?_
        rw [fill_o (show (86:Nat) ≠ 94 by decide)]
        refine aw_iastore G dX10_rules_75 (by first | decide | assumption | omega) (by first | rfl | assumption) (by first | decide | assumption) (by omega) ?_
        refine aw_iinc_2 G dX10_rules_76 rfl (hc := by first | rfl | assumption) (k := ?_)
        refine aw_goto (tgt := 49) G dX10_rules_79 (by decide) ?_
        rw [show up (fill σ 94 i (fun i => σ 86 (40 * l + i))) 94 i (σ 86 (40 * l + i)) = fill σ 94 (i + 1) (fun i => σ 86 (40 * l + i)) from fill_s (f := (fun i => σ 86 (40 * l + i))) (by omega)]
        exact ih (i + 1) _ hl hs7 (by omega) (by omega)
  refine aw_iload_n G dX10_rules_0 rfl ?_
  refine cs_X10_251 G dX10_rules_1 (c_X10_isList (by assumption)) (kk := fun r1 t1 h1 => ?_)
  obtain ⟨rfl, e1⟩ := h1
  obtain rfl := e1.symm
  refine aw_if_ne (tgt := 13) G dX10_rules_4 (by decide) (by first | omega | exact b01_R _ | exact bP_R _) (fun c4 => ?_) (fun c4 => ?_)
  · try simp only [b01_0, b01_n, bP_0, bP_n, Classical.not_not] at c4
    have hs := s1 l (by omega) (by omega)
    refine aw_aload_n G dX10_rules_13 rfl ?_
    refine gf_X10_41 G dX10_rules_14 (kk := ?_)
    refine aw_iload_n G dX10_rules_17 rfl ?_
    refine aw_iaload G dX10_rules_18 (by first | decide | assumption | omega) (by first | rfl | assumption) (by first | decide | assumption) (by omega) ?_
    refine aw_if_ge (tgt := 25) G dX10_rules_19 (by decide) (by first | omega | exact b01_R _ | exact bP_R _) (fun c19 => ?_) (fun c19 => ?_)
    · refine aw_aload_n G dX10_rules_25 rfl ?_
      refine gf_X10_41 G dX10_rules_26 (kk := ?_)
      refine aw_iload_n G dX10_rules_29 rfl ?_
      refine aw_iaload G dX10_rules_30 (by first | decide | assumption | omega) (by first | rfl | assumption) (by first | decide | assumption) (by omega) ?_
      refine aw_iconst G dX10_rules_31 ?_
      refine aw_bipush G dX10_rules_32 (k := ?_)
      refine cs_X10_78 G dX10_rules_34 (c_X10_in (by first | assumption | omega) (by first | assumption | omega) (by first | assumption | omega)) (kk := fun r34 t34 h34 => ?_)
      obtain ⟨rfl, e34⟩ := h34
      obtain rfl := e34.symm
      refine aw_if_ne (tgt := 47) G dX10_rules_37 (by decide) (by first | omega | exact b01_R _ | exact bP_R _) (fun c37 => ?_) (fun c37 => ?_)
      · try simp only [b01_0, b01_n, bP_0, bP_n, Classical.not_not] at c37
        refine aw_iconst G dX10_rules_47 ?_
        refine aw_istore_2 G dX10_rules_48 (hc := by first | rfl | assumption) (k := ?_)
        have := first ((σ 85 l).toNat + 1) 0 none (by omega) (by omega) (by omega) (by omega)
        rw [fill_0] at this
        exact this
      · try simp only [b01_0, b01_n, bP_0, bP_n, Classical.not_not] at c37
        refine aw_aload_n G dX10_rules_40 rfl ?_
        refine aw_bipush G dX10_rules_41 (k := ?_)
        refine cv_X10_87 G dX10_rules_43 (c_X10_refused (by decide)) (kk := fun r43 t43 h43 => ?_)
        obtain ⟨rfl, e43⟩ := h43
        obtain rfl := e43.symm
        exact aw_iret G T dX10_rules_46 (⟨by unfold an_rules; (repeat' split) <;> first | rfl | (exfalso; omega) | omega, by unfold nx_rules; (repeat' split) <;> first | exact ME.rf _ | (exfalso; omega)⟩)
    · refine aw_bipush G dX10_rules_22 (k := ?_)
      exact aw_iret G T dX10_rules_24 (⟨by unfold an_rules; (repeat' split) <;> first | rfl | (exfalso; omega) | omega, by unfold nx_rules; (repeat' split) <;> first | exact ME.rf _ | (exfalso; omega)⟩)
  · try simp only [b01_0, b01_n, bP_0, bP_n, Classical.not_not] at c4
    refine aw_aload_n G dX10_rules_7 rfl ?_
    refine aw_iconst G dX10_rules_8 ?_
    refine cv_X10_87 G dX10_rules_9 (c_X10_refused (by decide)) (kk := fun r9 t9 h9 => ?_)
    obtain ⟨rfl, e9⟩ := h9
    obtain rfl := e9.symm
    exact aw_iret G T dX10_rules_12 (⟨by unfold an_rules; (repeat' split) <;> first | rfl | (exfalso; omega) | omega, by unfold nx_rules; (repeat' split) <;> first | exact ME.rf _ | (exfalso; omega)⟩)
def unU (σ : St) (u i : Int) : St := fun k j => if k = 76 ∧ 0 ≤ j ∧ j < i then σ 81 (8 * u + j) else if k = 77 ∧ 0 ≤ j ∧ j < i then σ 82 (8 * u + j) else if k = 80 ∧ 0 ≤ j ∧ j < i then σ 83 (8 * u + j) else σ k j
theorem unU_0 (σ : St) (u : Int) : unU σ u 0 = σ := by
  funext k j
  unfold unU
  rw [if_neg (by omega), if_neg (by omega), if_neg (by omega)]
theorem unU_r {σ : St} {u i : Int} {k : Nat} (h : k ≠ 76 ∧ k ≠ 77 ∧ k ≠ 80) : unU σ u i k = σ k := by
  funext j
  unfold unU
  rw [if_neg (by omega), if_neg (by omega), if_neg (by omega)]
theorem unU_s {σ : St} {u i : Int} (h : 0 ≤ i) : up (up (up (unU σ u i) 76 i (σ 81 (8 * u + i))) 77 i (σ 82 (8 * u + i))) 80 i (σ 83 (8 * u + i)) = unU σ u (i + 1) := by
  funext k j
  unfold up unU
  by_cases h1 : k = 76
  · subst h1
    simp only [show ¬ (76 = 80) by decide, show ¬ (76 = 77) by decide, false_and, if_false, true_and]
    by_cases h2 : j = i
    · subst h2
      rw [if_pos rfl, if_pos (by omega)]
    · rw [if_neg h2]
      by_cases h3 : 0 ≤ j ∧ j < i
      · rw [if_pos h3, if_pos (by omega)]
      · rw [if_neg h3, if_neg (by omega)]
  by_cases h4 : k = 77
  · subst h4
    simp only [show ¬ (77 = 80) by decide, show ¬ (77 = 76) by decide, false_and, if_false, true_and]
    by_cases h2 : j = i
    · subst h2
      rw [if_pos rfl, if_pos (by omega)]
    · rw [if_neg h2]
      by_cases h3 : 0 ≤ j ∧ j < i
      · rw [if_pos h3, if_pos (by omega)]
      · rw [if_neg h3, if_neg (by omega)]
  by_cases h5 : k = 80
  · subst h5
    simp only [show ¬ (80 = 77) by decide, show ¬ (80 = 76) by decide, false_and, if_false, true_and]
    by_cases h2 : j = i
    · subst h2
      rw [if_pos rfl, if_pos (by omega)]
    · rw [if_neg h2]
      by_cases h3 : 0 ≤ j ∧ j < i
      · rw [if_pos h3, if_pos (by omega)]
      · rw [if_neg h3, if_neg (by omega)]
  · simp [h1, h4, h5]
set_option maxHeartbeats 4000000 in
theorem c_X10_undo {V : Wd} {σ : St}  (hk : OK σ) : Ct V yX10_undo cX10_undo 2 (some .int) 1 21 [rv V 75] σ (PI (fun r τ => r = an_undo σ ∧ τ = nx_undo σ)) := by
  refine ct_of (by decide) (Nat.le_of_ble_eq_true rfl) (fun X G T => ?_)
  have G : Gd X V cX10_undo RX10 2 1 21 := G
  show AW X V σ 0 [] [some (rv V 75), none]
  obtain ⟨⟨n1, n2, n3, n4, n5, n6⟩, u1, l1, l2, i1, s1, w1⟩ := id hk
  have loop : ∀ (n0 : Nat) (i : Int), (¬ σ 75 7 = 0) → (0 ≤ i ∧ i ≤ 8) → (8 < i + (n0 : Int)) → AW X V (unU (up σ 75 7 (σ 75 7 - 1)) (σ 75 7 - 1) i) 26 [] [some (rv V 75), some (iv i)] := by
    intro n0
    induction n0 with
    | zero =>
      intro i hu h0 h3
      exfalso
      omega
    | succ n0 ih =>
      intro i hu h0 h3
      refine aw_iload_n G dX10_undo_26 rfl ?_
      refine aw_bipush G dX10_undo_27 (k := ?_)
      refine aw_icmp_ge (tgt := 98) G dX10_undo_29 (by decide) (by first | omega | exact b01_R _ | exact bP_R _) (by first | omega | exact b01_R _ | exact bP_R _) (fun c29 => ?_) (fun c29 => ?_)
      · refine aw_aload_n G dX10_undo_98 rfl ?_
        refine gf_X10_125 G dX10_undo_99 (kk := ?_)
        rw [unU_r (show (75:Nat) ≠ 76 ∧ (75:Nat) ≠ 77 ∧ (75:Nat) ≠ 80 by decide), up_at]
        exact aw_iret G T dX10_undo_102 (⟨by unfold an_undo; rw [if_neg hu], by
          unfold nx_undo
          rw [if_neg hu, show i = 8 by omega]
          funext k j
          unfold unU
          rw [up_o (show (81:Nat) ≠ 75 by decide), up_o (show (82:Nat) ≠ 75 by decide), up_o (show (83:Nat) ≠ 75 by decide)]
          unfold up
          by_cases c1 : k = 75 ∧ j = 7
          · rw [if_neg (by omega), if_neg (by omega), if_neg (by omega), if_pos c1, if_pos c1]
          · rw [if_neg c1, if_neg c1]⟩)
      · refine aw_aload_n G dX10_undo_32 rfl ?_
        refine gf_X10_13 G dX10_undo_33 (kk := ?_)
        refine aw_iload_n G dX10_undo_36 rfl ?_
        refine aw_aload_n G dX10_undo_37 rfl ?_
        refine gf_X10_29 G dX10_undo_38 (kk := ?_)
        refine aw_bipush G dX10_undo_41 (k := ?_)
        refine aw_aload_n G dX10_undo_43 rfl ?_
        refine gf_X10_125 G dX10_undo_44 (kk := ?_)
        rw [unU_r (show (75:Nat) ≠ 76 ∧ (75:Nat) ≠ 77 ∧ (75:Nat) ≠ 80 by decide), up_at]
        refine aw_imul G dX10_undo_47 ?_
        refine aw_iload_n G dX10_undo_48 rfl ?_
        refine aw_iadd G dX10_undo_49 ?_
        refine aw_iaload G dX10_undo_50 (by first | decide | assumption | omega) (by first | rfl | assumption) (by first | decide | assumption) (by omega) ?_
        rw [unU_r (show (81:Nat) ≠ 76 ∧ (81:Nat) ≠ 77 ∧ (81:Nat) ≠ 80 by decide)]
        refine aw_iastore G dX10_undo_51 (by first | decide | assumption | omega) (by first | rfl | assumption) (by first | decide | assumption) (by omega) ?_
        refine aw_aload_n G dX10_undo_52 rfl ?_
        refine gf_X10_17 G dX10_undo_53 (kk := ?_)
        refine aw_iload_n G dX10_undo_56 rfl ?_
        refine aw_aload_n G dX10_undo_57 rfl ?_
        refine gf_X10_32 G dX10_undo_58 (kk := ?_)
        refine aw_bipush G dX10_undo_61 (k := ?_)
        refine aw_aload_n G dX10_undo_63 rfl ?_
        refine gf_X10_125 G dX10_undo_64 (kk := ?_)
        rw [up_o (show (75:Nat) ≠ 76 by decide), unU_r (show (75:Nat) ≠ 76 ∧ (75:Nat) ≠ 77 ∧ (75:Nat) ≠ 80 by decide), up_at]
        refine aw_imul G dX10_undo_67 ?_
        refine aw_iload_n G dX10_undo_68 rfl ?_
        refine aw_iadd G dX10_undo_69 ?_
        refine aw_iaload G dX10_undo_70 (by first | decide | assumption | omega) (by first | rfl | assumption) (by first | decide | assumption) (by omega) ?_
        rw [up_o (show (82:Nat) ≠ 76 by decide), unU_r (show (82:Nat) ≠ 76 ∧ (82:Nat) ≠ 77 ∧ (82:Nat) ≠ 80 by decide)]
        refine aw_iastore G dX10_undo_71 (by first | decide | assumption | omega) (by first | rfl | assumption) (by first | decide | assumption) (by omega) ?_
        refine aw_aload_n G dX10_undo_72 rfl ?_
        refine gf_X10_26 G dX10_undo_73 (kk := ?_)
        refine aw_iload_n G dX10_undo_76 rfl ?_
        refine aw_aload_n G dX10_undo_77 rfl ?_
        refine gf_X10_35 G dX10_undo_78 (kk := ?_)
        refine aw_bipush G dX10_undo_81 (k := ?_)
        refine aw_aload_n G dX10_undo_83 rfl ?_
        refine gf_X10_125 G dX10_undo_84 (kk := ?_)
        rw [up_o (show (75:Nat) ≠ 77 by decide), up_o (show (75:Nat) ≠ 76 by decide), unU_r (show (75:Nat) ≠ 76 ∧ (75:Nat) ≠ 77 ∧ (75:Nat) ≠ 80 by decide), up_at]
        refine aw_imul G dX10_undo_87 ?_
        refine aw_iload_n G dX10_undo_88 rfl ?_
        refine aw_iadd G dX10_undo_89 ?_
        refine aw_iaload G dX10_undo_90 (by first | decide | assumption | omega) (by first | rfl | assumption) (by first | decide | assumption) (by omega) ?_
        rw [up_o (show (83:Nat) ≠ 77 by decide), up_o (show (83:Nat) ≠ 76 by decide), unU_r (show (83:Nat) ≠ 76 ∧ (83:Nat) ≠ 77 ∧ (83:Nat) ≠ 80 by decide)]
        refine aw_iastore G dX10_undo_91 (by first | decide | assumption | omega) (by first | rfl | assumption) (by first | decide | assumption) (by omega) ?_
        refine aw_iinc_1 G dX10_undo_92 rfl (hc := by first | rfl | assumption) (k := ?_)
        refine aw_goto (tgt := 26) G dX10_undo_95 (by decide) ?_
        rw [show up (up (up (unU (up σ 75 7 (σ 75 7 - 1)) (σ 75 7 - 1) i) 76 i ((up σ 75 7 (σ 75 7 - 1)) 81 (8 * (σ 75 7 - 1) + i))) 77 i ((up σ 75 7 (σ 75 7 - 1)) 82 (8 * (σ 75 7 - 1) + i))) 80 i ((up σ 75 7 (σ 75 7 - 1)) 83 (8 * (σ 75 7 - 1) + i)) = unU (up σ 75 7 (σ 75 7 - 1)) (σ 75 7 - 1) (i + 1) from unU_s (by omega)]
        exact ih (i + 1) hu (by omega) (by omega)
  refine aw_aload_n G dX10_undo_0 rfl ?_
  refine gf_X10_125 G dX10_undo_1 (kk := ?_)
  refine aw_if_ne (tgt := 14) G dX10_undo_4 (by decide) (by first | omega | exact b01_R _ | exact bP_R _) (fun c4 => ?_) (fun c4 => ?_)
  · try simp only [b01_0, b01_n, bP_0, bP_n, Classical.not_not] at c4
    refine aw_aload_n G dX10_undo_14 rfl ?_
    refine aw_dup G dX10_undo_15 (k := ?_)
    refine gf_X10_125 G dX10_undo_16 (kk := ?_)
    refine aw_iconst G dX10_undo_19 ?_
    refine aw_isub G dX10_undo_20 ?_
    refine pf_X10_125 G dX10_undo_21 (kk := ?_)
    refine aw_iconst G dX10_undo_24 ?_
    refine aw_istore_1 G dX10_undo_25 (hc := by first | rfl | assumption) (k := ?_)
    have := loop 9 0 c4 (by omega) (by omega)
    rw [unU_0] at this
    exact this
  · try simp only [b01_0, b01_n, bP_0, bP_n, Classical.not_not] at c4
    refine aw_aload_n G dX10_undo_7 rfl ?_
    refine aw_bipush G dX10_undo_8 (k := ?_)
    refine cv_X10_87 G dX10_undo_10 (c_X10_refused (by decide)) (kk := fun r10 t10 h10 => ?_)
    obtain ⟨rfl, e10⟩ := h10
    obtain rfl := e10.symm
    exact aw_iret G T dX10_undo_13 (⟨by unfold an_undo; (repeat' split) <;> first | rfl | (exfalso; omega) | omega, by unfold nx_undo; (repeat' split) <;> first | rfl | (exfalso; omega) | omega⟩)
