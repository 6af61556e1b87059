def isT (row : Int → Int) (cnt : Int) (ls : List Int) : Prop := cnt = ls.length ∧ ∀ i : Nat, i < ls.length → row i = ls.getD i 0
theorem isT.add {σ τ : St} {k : Nat} {cnt c : Int} {ls : List Int} (h : isT (σ k) cnt ls) (ht : τ k = up σ k cnt c k) : isT (τ k) (cnt + 1) (ls ++ [c]) := by
  obtain ⟨h1, h2⟩ := h
  refine ⟨by simp [h1], fun i hi => ?_⟩
  rw [List.length_append] at hi
  simp only [List.length_cons, List.length_nil] at hi
  rw [ht]
  by_cases e : i = ls.length
  · subst e
    rw [h1, up_at]
    simp
  · rw [up_nj (by omega), h2 i (by omega)]
    simp only [List.getD_eq_getElem?_getD]
    rw [List.getElem?_append_left (by omega)]
theorem isT.z (row : Int → Int) : isT row 0 [] := ⟨rfl, fun i hi => by simp at hi⟩
def wln (σ : St) (b : Nat) (l : Int) : List Int := [108, 48 + σ (b + 1) l, 48 + σ (b + 3) l, 48 + σ (b + 4) l, 59] ++ (if σ (b + 2) l = 0 then [] else [102, 48 + l, 48 + σ (b + 2) l, 59]) ++ (if σ (b + 5) l = 0 then [] else [118, 48 + l, 48 + σ (b + 5) l / 10, 48 + σ (b + 5) l % 10, 59])
def wtx (σ : St) (b : Nat) : Nat → List Int
  | 0 => [110, 48 + σ b 0, 59]
  | l + 1 => wtx σ b l ++ wln σ b l
theorem wln_len (σ : St) (b : Nat) (l : Int) : (wln σ b l).length ≤ 14 := by
  unfold wln
  (repeat' split) <;> simp
theorem wtx_len (σ : St) (b : Nat) : ∀ l : Nat, (wtx σ b l).length ≤ 3 + 14 * l
  | 0 => by simp [wtx]
  | l + 1 => by
    have h1 := wtx_len σ b l
    have h2 := wln_len σ b l
    unfold wtx
    rw [List.length_append]
    omega
theorem wtx_c {σ τ : St} {b c : Nat} (h : NetEq σ b τ c) : ∀ l : Nat, l ≤ 8 → wtx σ b l = wtx τ c l
  | 0, _ => by
    unfold wtx
    rw [h.1]
  | l + 1, hl => by
    obtain ⟨h1, h2, h3, h4, h5⟩ := h.2.2 l (by omega) (by omega)
    unfold wtx wln
    rw [wtx_c h l (by omega), h1, h2, h3, h4, h5]
/-- a sign of a text: the i-th, -9: there are not so many -/
def sgn (ls : List Int) (i : Int) : Int := if i < ls.length then ls.getD i.toNat 0 else -9
def an_written (α : St) (i : Int) : Int := if i < -1 then -4 else if i = -1 then (wtx α 75 (α 75 1).toNat).length else sgn (wtx α 75 (α 75 1).toNat) i
def nx_written (α : St) (i : Int) : St := if i < -1 then rf α (-4) else α
theorem td_ed {x : Int} (y : Int) (h : 0 ≤ x) : x.tdiv y = x / y := Int.tdiv_eq_ediv_of_nonneg h
set_option maxHeartbeats 4000000 in
theorem c_X8_add {V : Wd} {σ : St} {ρ : St} {c : Int} {ls : List Int} (ho : Only [64, 65] ρ σ) (ht : isT (σ 65) (σ 64 1) ls) (hl : ls.length < 115) : Ct V yX8_add cX8_add 2 none 0 0 [rv V 64, iv c] σ (PV (fun τ => Only [64, 65] ρ τ ∧ isT (τ 65) (τ 64 1) (ls ++ [c]))) := by
  refine ct_of (by decide) (Nat.le_of_ble_eq_true rfl) (fun X G T => ?_)
  have G : Gd X V cX8_add RX8 2 0 0 := G
  show AW X V σ 0 [] [some (rv V 64), some (iv c)]
  have hc := ht.1
  refine aw_aload_n G dX8_add_0 rfl ?_
  refine gf_X8_15 G dX8_add_1 (kk := ?_)
  refine aw_bipush G dX8_add_4 (k := ?_)
  refine aw_icmp_ge (tgt := 29) G dX8_add_6 (by decide) (by first | omega | exact b01_R _ | exact bP_R _) (by first | omega | exact b01_R _ | exact bP_R _) (fun c6 => ?_) (fun c6 => ?_)
  · exact absurd c6 (by omega)
  · refine aw_aload_n G dX8_add_9 rfl ?_
    refine gf_X8_11 G dX8_add_10 (kk := ?_)
    refine aw_aload_n G dX8_add_13 rfl ?_
    refine gf_X8_15 G dX8_add_14 (kk := ?_)
    refine aw_iload_n G dX8_add_17 rfl ?_
    refine aw_iastore G dX8_add_18 (by first | decide | assumption | omega) (by first | rfl | assumption) (by first | decide | assumption) (by omega) ?_
    refine aw_aload_n G dX8_add_19 rfl ?_
    refine aw_dup G dX8_add_20 (k := ?_)
    refine gf_X8_15 G dX8_add_21 (kk := ?_)
    rw [up_o (show (64:Nat) ≠ 65 by decide)]
    refine aw_iconst G dX8_add_24 ?_
    refine aw_iadd G dX8_add_25 ?_
    refine pf_X8_15 G dX8_add_26 (kk := ?_)
    exact aw_vret G T dX8_add_29 (⟨(ho.up (by decide)).up (by decide), by rw [up_at]; exact ht.add (up_ne (by decide))⟩)

set_option maxHeartbeats 4000000 in
theorem c_X8_addDigit {V : Wd} {σ : St} {ρ : St} {c : Int} {ls : List Int} (ho : Only [64, 65] ρ σ) (ht : isT (σ 65) (σ 64 1) ls) (hl : ls.length < 115) : Ct V yX8_addDigit cX8_addDigit 2 none 1 21 [rv V 64, iv c] σ (PV (fun τ => Only [64, 65] ρ τ ∧ isT (τ 65) (τ 64 1) (ls ++ [48 + c]))) := by
  refine ct_of (by decide) (Nat.le_of_ble_eq_true rfl) (fun X G T => ?_)
  have G : Gd X V cX8_addDigit RX8 2 1 21 := G
  show AW X V σ 0 [] [some (rv V 64), some (iv c)]
  refine aw_aload_n G dX8_addDigit_0 rfl ?_
  refine aw_bipush G dX8_addDigit_1 (k := ?_)
  refine aw_iload_n G dX8_addDigit_3 rfl ?_
  refine aw_iadd G dX8_addDigit_4 ?_
  refine cv_X8_19 G dX8_addDigit_5 (c_X8_add ho ht (by first | omega | (simp only [List.length_append, List.length_cons, List.length_nil]; omega))) (kk := fun t5 h5 => ?_)
  obtain ⟨ho, ht⟩ := h5
  exact aw_vret G T dX8_addDigit_8 (⟨ho, ht⟩)

set_option maxHeartbeats 4000000 in
theorem c_X8_writeLine {V : Wd} {σ : St} {ρ : St} {l : Int} {ls : List Int} (ho : Only [64, 65] ρ σ) (ht : isT (σ 65) (σ 64 1) ls) (hl : ls.length ≤ 101) (h8 : 0 ≤ l ∧ l < 8) (hR : RowOK ρ 1) : Ct V yX8_writeLine cX8_writeLine 3 none 2 42 [rv V 64, rv V 1, iv l] σ (PV (fun τ => Only [64, 65] ρ τ ∧ isT (τ 65) (τ 64 1) (ls ++ wln ρ 1 l))) := by
  refine ct_of (by decide) (Nat.le_of_ble_eq_true rfl) (fun X G T => ?_)
  have G : Gd X V cX8_writeLine RX8 3 2 42 := G
  show AW X V σ 0 [] [some (rv V 64), some (rv V 1), some (iv l)]
  have hr := hR l (by omega) (by omega)
  simp only [Nat.reduceAdd] at hr
  refine aw_aload_n G dX8_writeLine_0 rfl ?_
  refine aw_bipush G dX8_writeLine_1 (k := ?_)
  refine cv_X8_19 G dX8_writeLine_3 (c_X8_add ho ht (by first | omega | (simp only [List.length_append, List.length_cons, List.length_nil]; omega))) (kk := fun t3 h3 => ?_)
  obtain ⟨ho, ht⟩ := h3
  refine aw_aload_n G dX8_writeLine_6 rfl ?_
  refine aw_aload_n G dX8_writeLine_7 rfl ?_
  refine gf_X8_38 G dX8_writeLine_8 (kk := ?_)
  refine aw_iload_n G dX8_writeLine_11 rfl ?_
  refine aw_iaload G dX8_writeLine_12 (by first | decide | assumption | omega) (by first | rfl | assumption) (by first | decide | assumption) (by omega) ?_
  rw [ho 2 (by decide)]
  refine cv_X8_28 G dX8_writeLine_13 (c_X8_addDigit ho ht (by first | omega | (simp only [List.length_append, List.length_cons, List.length_nil]; omega))) (kk := fun t13 h13 => ?_)
  obtain ⟨ho, ht⟩ := h13
  refine aw_aload_n G dX8_writeLine_16 rfl ?_
  refine aw_aload_n G dX8_writeLine_17 rfl ?_
  refine gf_X8_41 G dX8_writeLine_18 (kk := ?_)
  refine aw_iload_n G dX8_writeLine_21 rfl ?_
  refine aw_iaload G dX8_writeLine_22 (by first | decide | assumption | omega) (by first | rfl | assumption) (by first | decide | assumption) (by omega) ?_
  rw [ho 4 (by decide)]
  refine cv_X8_28 G dX8_writeLine_23 (c_X8_addDigit ho ht (by first | omega | (simp only [List.length_append, List.length_cons, List.length_nil]; omega))) (kk := fun t23 h23 => ?_)
  obtain ⟨ho, ht⟩ := h23
  refine aw_aload_n G dX8_writeLine_26 rfl ?_
  refine aw_aload_n G dX8_writeLine_27 rfl ?_
  refine gf_X8_44 G dX8_writeLine_28 (kk := ?_)
  refine aw_iload_n G dX8_writeLine_31 rfl ?_
  refine aw_iaload G dX8_writeLine_32 (by first | decide | assumption | omega) (by first | rfl | assumption) (by first | decide | assumption) (by omega) ?_
  rw [ho 5 (by decide)]
  refine cv_X8_28 G dX8_writeLine_33 (c_X8_addDigit ho ht (by first | omega | (simp only [List.length_append, List.length_cons, List.length_nil]; omega))) (kk := fun t33 h33 => ?_)
  obtain ⟨ho, ht⟩ := h33
  refine aw_aload_n G dX8_writeLine_36 rfl ?_
  refine aw_bipush G dX8_writeLine_37 (k := ?_)
  refine cv_X8_19 G dX8_writeLine_39 (c_X8_add ho ht (by first | omega | (simp only [List.length_append, List.length_cons, List.length_nil]; omega))) (kk := fun t39 h39 => ?_)
  obtain ⟨ho, ht⟩ := h39
  refine aw_aload_n G dX8_writeLine_42 rfl ?_
  refine gf_X8_47 G dX8_writeLine_43 (kk := ?_)
  refine aw_iload_n G dX8_writeLine_46 rfl ?_
  refine aw_iaload G dX8_writeLine_47 (by first | decide | assumption | omega) (by first | rfl | assumption) (by first | decide | assumption) (by omega) ?_
  rw [ho 3 (by decide)]
  refine aw_if_eq (tgt := 78) G dX8_writeLine_48 (by decide) (by first | omega | exact b01_R _ | exact bP_R _) (fun c48 => ?_) (fun c48 => ?_)
  · try simp only [b01_0, b01_n, bP_0, bP_n, Classical.not_not] at c48
    refine aw_aload_n G dX8_writeLine_78 rfl ?_
    refine gf_X8_50 G dX8_writeLine_79 (kk := ?_)
    refine aw_iload_n G dX8_writeLine_82 rfl ?_
    refine aw_iaload G dX8_writeLine_83 (by first | decide | assumption | omega) (by first | rfl | assumption) (by first | decide | assumption) (by omega) ?_
    rw [ho 6 (by decide)]
    refine aw_if_eq (tgt := 130) G dX8_writeLine_84 (by decide) (by first | omega | exact b01_R _ | exact bP_R _) (fun c84 => ?_) (fun c84 => ?_)
    · try simp only [b01_0, b01_n, bP_0, bP_n, Classical.not_not] at c84
      exact aw_vret G T dX8_writeLine_130 (⟨ho, by
          unfold wln
          simp only [Nat.reduceAdd]
          first | rw [if_pos c48, if_pos c84] | rw [if_pos c48, if_neg c84] | rw [if_neg c48, if_pos c84] | rw [if_neg c48, if_neg c84]
          simp only [List.append_assoc, List.cons_append, List.nil_append, List.append_nil] at ht ⊢
          exact ht⟩)
    · try simp only [b01_0, b01_n, bP_0, bP_n, Classical.not_not] at c84
      refine aw_aload_n G dX8_writeLine_87 rfl ?_
      refine aw_bipush G dX8_writeLine_88 (k := ?_)
      refine cv_X8_19 G dX8_writeLine_90 (c_X8_add ho ht (by first | omega | (simp only [List.length_append, List.length_cons, List.length_nil]; omega))) (kk := fun t90 h90 => ?_)
      obtain ⟨ho, ht⟩ := h90
      refine aw_aload_n G dX8_writeLine_93 rfl ?_
      refine aw_iload_n G dX8_writeLine_94 rfl ?_
      refine cv_X8_28 G dX8_writeLine_95 (c_X8_addDigit ho ht (by first | omega | (simp only [List.length_append, List.length_cons, List.length_nil]; omega))) (kk := fun t95 h95 => ?_)
      obtain ⟨ho, ht⟩ := h95
      refine aw_aload_n G dX8_writeLine_98 rfl ?_
      refine aw_aload_n G dX8_writeLine_99 rfl ?_
      refine gf_X8_50 G dX8_writeLine_100 (kk := ?_)
      refine aw_iload_n G dX8_writeLine_103 rfl ?_
      refine aw_iaload G dX8_writeLine_104 (by first | decide | assumption | omega) (by first | rfl | assumption) (by first | decide | assumption) (by omega) ?_
      rw [ho 6 (by decide)]
      refine aw_bipush G dX8_writeLine_105 (k := ?_)
      refine aw_idiv G dX8_writeLine_107 (by first | omega | exact b01_R _ | exact bP_R _) (by first | omega | exact b01_R _ | exact bP_R _) ?_
      rw [td_ed _ (by omega)]
      refine cv_X8_28 G dX8_writeLine_108 (c_X8_addDigit ho ht (by first | omega | (simp only [List.length_append, List.length_cons, List.length_nil]; omega))) (kk := fun t108 h108 => ?_)
      obtain ⟨ho, ht⟩ := h108
      refine aw_aload_n G dX8_writeLine_111 rfl ?_
      refine aw_aload_n G dX8_writeLine_112 rfl ?_
      refine gf_X8_50 G dX8_writeLine_113 (kk := ?_)
      refine aw_iload_n G dX8_writeLine_116 rfl ?_
      refine aw_iaload G dX8_writeLine_117 (by first | decide | assumption | omega) (by first | rfl | assumption) (by first | decide | assumption) (by omega) ?_
      rw [ho 6 (by decide)]
      refine aw_bipush G dX8_writeLine_118 (k := ?_)
      refine aw_irem G dX8_writeLine_120 (by first | omega | exact b01_R _ | exact bP_R _) (by first | omega | exact b01_R _ | exact bP_R _) ?_
      rw [tm_em _ (by omega)]
      refine cv_X8_28 G dX8_writeLine_121 (c_X8_addDigit ho ht (by first | omega | (simp only [List.length_append, List.length_cons, List.length_nil]; omega))) (kk := fun t121 h121 => ?_)
      obtain ⟨ho, ht⟩ := h121
      refine aw_aload_n G dX8_writeLine_124 rfl ?_
      refine aw_bipush G dX8_writeLine_125 (k := ?_)
      refine cv_X8_19 G dX8_writeLine_127 (c_X8_add ho ht (by first | omega | (simp only [List.length_append, List.length_cons, List.length_nil]; omega))) (kk := fun t127 h127 => ?_)
      obtain ⟨ho, ht⟩ := h127
      exact aw_vret G T dX8_writeLine_130 (⟨ho, by
          unfold wln
          simp only [Nat.reduceAdd]
          first | rw [if_pos c48, if_pos c84] | rw [if_pos c48, if_neg c84] | rw [if_neg c48, if_pos c84] | rw [if_neg c48, if_neg c84]
          simp only [List.append_assoc, List.cons_append, List.nil_append, List.append_nil] at ht ⊢
          exact ht⟩)
  · try simp only [b01_0, b01_n, bP_0, bP_n, Classical.not_not] at c48
    refine aw_aload_n G dX8_writeLine_51 rfl ?_
    refine aw_bipush G dX8_writeLine_52 (k := ?_)
    refine cv_X8_19 G dX8_writeLine_54 (c_X8_add ho ht (by first | omega | (simp only [List.length_append, List.length_cons, List.length_nil]; omega))) (kk := fun t54 h54 => ?_)
    obtain ⟨ho, ht⟩ := h54
    refine aw_aload_n G dX8_writeLine_57 rfl ?_
    refine aw_iload_n G dX8_writeLine_58 rfl ?_
    refine cv_X8_28 G dX8_writeLine_59 (c_X8_addDigit ho ht (by first | omega | (simp only [List.length_append, List.length_cons, List.length_nil]; omega))) (kk := fun t59 h59 => ?_)
    obtain ⟨ho, ht⟩ := h59
    refine aw_aload_n G dX8_writeLine_62 rfl ?_
    refine aw_aload_n G dX8_writeLine_63 rfl ?_
    refine gf_X8_47 G dX8_writeLine_64 (kk := ?_)
    refine aw_iload_n G dX8_writeLine_67 rfl ?_
    refine aw_iaload G dX8_writeLine_68 (by first | decide | assumption | omega) (by first | rfl | assumption) (by first | decide | assumption) (by omega) ?_
    rw [ho 3 (by decide)]
    refine cv_X8_28 G dX8_writeLine_69 (c_X8_addDigit ho ht (by first | omega | (simp only [List.length_append, List.length_cons, List.length_nil]; omega))) (kk := fun t69 h69 => ?_)
    obtain ⟨ho, ht⟩ := h69
    refine aw_aload_n G dX8_writeLine_72 rfl ?_
    refine aw_bipush G dX8_writeLine_73 (k := ?_)
    refine cv_X8_19 G dX8_writeLine_75 (c_X8_add ho ht (by first | omega | (simp only [List.length_append, List.length_cons, List.length_nil]; omega))) (kk := fun t75 h75 => ?_)
    obtain ⟨ho, ht⟩ := h75
    refine aw_aload_n G dX8_writeLine_78 rfl ?_
    refine gf_X8_50 G dX8_writeLine_79 (kk := ?_)
    refine aw_iload_n G dX8_writeLine_82 rfl ?_
    refine aw_iaload G dX8_writeLine_83 (by first | decide | assumption | omega) (by first | rfl | assumption) (by first | decide | assumption) (by omega) ?_
    rw [ho 6 (by decide)]
    refine aw_if_eq (tgt := 130) G dX8_writeLine_84 (by decide) (by first | omega | exact b01_R _ | exact bP_R _) (fun c84 => ?_) (fun c84 => ?_)
    · try simp only [b01_0, b01_n, bP_0, bP_n, Classical.not_not] at c84
      exact aw_vret G T dX8_writeLine_130 (⟨ho, by
          unfold wln
          simp only [Nat.reduceAdd]
          first | rw [if_pos c48, if_pos c84] | rw [if_pos c48, if_neg c84] | rw [if_neg c48, if_pos c84] | rw [if_neg c48, if_neg c84]
          simp only [List.append_assoc, List.cons_append, List.nil_append, List.append_nil] at ht ⊢
          exact ht⟩)
    · try simp only [b01_0, b01_n, bP_0, bP_n, Classical.not_not] at c84
      refine aw_aload_n G dX8_writeLine_87 rfl ?_
      refine aw_bipush G dX8_writeLine_88 (k := ?_)
      refine cv_X8_19 G dX8_writeLine_90 (c_X8_add ho ht (by first | omega | (simp only [List.length_append, List.length_cons, List.length_nil]; omega))) (kk := fun t90 h90 => ?_)
      obtain ⟨ho, ht⟩ := h90
      refine aw_aload_n G dX8_writeLine_93 rfl ?_
      refine aw_iload_n G dX8_writeLine_94 rfl ?_
      refine cv_X8_28 G dX8_writeLine_95 (c_X8_addDigit ho ht (by first | omega | (simp only [List.length_append, List.length_cons, List.length_nil]; omega))) (kk := fun t95 h95 => ?_)
      obtain ⟨ho, ht⟩ := h95
      refine aw_aload_n G dX8_writeLine_98 rfl ?_
      refine aw_aload_n G dX8_writeLine_99 rfl ?_
      refine gf_X8_50 G dX8_writeLine_100 (kk := ?_)
      refine aw_iload_n G dX8_writeLine_103 rfl ?_
      refine aw_iaload G dX8_writeLine_104 (by first | decide | assumption | omega) (by first | rfl | assumption) (by first | decide | assumption) (by omega) ?_
      rw [ho 6 (by decide)]
      refine aw_bipush G dX8_writeLine_105 (k := ?_)
      refine aw_idiv G dX8_writeLine_107 (by first | omega | exact b01_R _ | exact bP_R _) (by first | omega | exact b01_R _ | exact bP_R _) ?_
      rw [td_ed _ (by omega)]
      refine cv_X8_28 G dX8_writeLine_108 (c_X8_addDigit ho ht (by first | omega | (simp only [List.length_append, List.length_cons, List.length_nil]; omega))) (kk := fun t108 h108 => ?_)
      obtain ⟨ho, ht⟩ := h108
      refine aw_aload_n G dX8_writeLine_111 rfl ?_
      refine aw_aload_n G dX8_writeLine_112 rfl ?_
      refine gf_X8_50 G dX8_writeLine_113 (kk := ?_)
      refine aw_iload_n G dX8_writeLine_116 rfl ?_
      refine aw_iaload G dX8_writeLine_117 (by first | decide | assumption | omega) (by first | rfl | assumption) (by first | decide | assumption) (by omega) ?_
      rw [ho 6 (by decide)]
      refine aw_bipush G dX8_writeLine_118 (k := ?_)
      refine aw_irem G dX8_writeLine_120 (by first | omega | exact b01_R _ | exact bP_R _) (by first | omega | exact b01_R _ | exact bP_R _) ?_
      rw [tm_em _ (by omega)]
      refine cv_X8_28 G dX8_writeLine_121 (c_X8_addDigit ho ht (by first | omega | (simp only [List.length_append, List.length_cons, List.length_nil]; omega))) (kk := fun t121 h121 => ?_)
      obtain ⟨ho, ht⟩ := h121
      refine aw_aload_n G dX8_writeLine_124 rfl ?_
      refine aw_bipush G dX8_writeLine_125 (k := ?_)
      refine cv_X8_19 G dX8_writeLine_127 (c_X8_add ho ht (by first | omega | (simp only [List.length_append, List.length_cons, List.length_nil]; omega))) (kk := fun t127 h127 => ?_)
      obtain ⟨ho, ht⟩ := h127
      exact aw_vret G T dX8_writeLine_130 (⟨ho, by
          unfold wln
          simp only [Nat.reduceAdd]
          first | rw [if_pos c48, if_pos c84] | rw [if_pos c48, if_neg c84] | rw [if_neg c48, if_pos c84] | rw [if_neg c48, if_neg c84]
          simp only [List.append_assoc, List.cons_append, List.nil_append, List.append_nil] at ht ⊢
          exact ht⟩)

set_option maxHeartbeats 4000000 in
theorem c_X8_write {V : Wd} {σ : St}  (hn : 0 ≤ σ 1 1 ∧ σ 1 1 ≤ 8) (hR : RowOK σ 1) : Ct V yX8_write cX8_write 3 none 3 64 [rv V 64, rv V 1] σ (PV (fun τ => Only [64, 65] σ τ ∧ isT (τ 65) (τ 64 1) (wtx σ 1 (σ 1 1).toNat))) := by
  refine ct_of (by decide) (Nat.le_of_ble_eq_true rfl) (fun X G T => ?_)
  have G : Gd X V cX8_write RX8 3 3 64 := G
  show AW X V σ 0 [] [some (rv V 64), some (rv V 1), none]
  have loop : ∀ (n0 : Nat) (i : Int) (τ : St), (0 ≤ i ∧ i ≤ σ 1 1) → (σ 1 1 < i + (n0 : Int)) → (Only [64, 65] σ τ) → (isT (τ 65) (τ 64 1) (wtx σ 1 i.toNat)) → AW X V (τ) 27 [] [some (rv V 64), some (rv V 1), some (iv i)] := by
    intro n0
    induction n0 with
    | zero =>
      intro i τ h0 h1 ho ht
      exfalso
      omega
    | succ n0 ih =>
      intro i τ h0 h1 ho ht
      refine aw_iload_n G dX8_write_27 rfl ?_
      refine aw_aload_n G dX8_write_28 rfl ?_
      refine gf_X8_31 G dX8_write_29 (kk := ?_)
      rw [ho 1 (by decide)]
      refine aw_icmp_ge (tgt := 47) G dX8_write_32 (by decide) (by first | omega | exact b01_R _ | exact bP_R _) (by first | omega | exact b01_R _ | exact bP_R _) (fun c32 => ?_) (fun c32 => ?_)
      · exact aw_vret G T dX8_write_47 (⟨ho, by rw [show (σ 1 1).toNat = i.toNat by omega]; exact ht⟩)
      · have hln := wtx_len σ 1 i.toNat
        refine aw_aload_n G dX8_write_35 rfl ?_
        refine aw_aload_n G dX8_write_36 rfl ?_
        refine aw_iload_n G dX8_write_37 rfl ?_
        refine cv_X8_34 G dX8_write_38 (c_X8_writeLine ho ht (by omega) (by omega) hR) (kk := fun t38 h38 => ?_)
        obtain ⟨ho, ht⟩ := h38
        refine aw_iinc_2 G dX8_write_41 rfl (hc := by first | rfl | assumption) (k := ?_)
        refine aw_goto (tgt := 27) G dX8_write_44 (by decide) ?_
        refine ih (i + 1) _ (by omega) (by omega) ho ?_
        rw [show (i + 1).toNat = i.toNat + 1 by omega]
        unfold wtx
        rw [show ((i.toNat : Nat) : Int) = i by omega]
        exact ht
  refine aw_aload_n G dX8_write_0 rfl ?_
  refine aw_iconst G dX8_write_1 ?_
  refine pf_X8_15 G dX8_write_2 (kk := ?_)
  have ho : Only [64, 65] σ (up σ 64 1 0) := Only.rf.up (by decide)
  have ht : isT (up σ 64 1 0 65) (up σ 64 1 0 64 1) [] := isT.z _
  refine aw_aload_n G dX8_write_5 rfl ?_
  refine aw_bipush G dX8_write_6 (k := ?_)
  refine cv_X8_19 G dX8_write_8 (c_X8_add ho ht (by first | omega | (simp only [List.length_append, List.length_cons, List.length_nil]; omega))) (kk := fun t8 h8 => ?_)
  obtain ⟨ho, ht⟩ := h8
  refine aw_aload_n G dX8_write_11 rfl ?_
  refine aw_aload_n G dX8_write_12 rfl ?_
  refine gf_X8_23 G dX8_write_13 (kk := ?_)
  rw [ho 1 (by decide)]
  refine cv_X8_28 G dX8_write_16 (c_X8_addDigit ho ht (by first | omega | (simp only [List.length_append, List.length_cons, List.length_nil]; omega))) (kk := fun t16 h16 => ?_)
  obtain ⟨ho, ht⟩ := h16
  refine aw_aload_n G dX8_write_19 rfl ?_
  refine aw_bipush G dX8_write_20 (k := ?_)
  refine cv_X8_19 G dX8_write_22 (c_X8_add ho ht (by first | omega | (simp only [List.length_append, List.length_cons, List.length_nil]; omega))) (kk := fun t22 h22 => ?_)
  obtain ⟨ho, ht⟩ := h22
  refine aw_iconst G dX8_write_25 ?_
  refine aw_istore_2 G dX8_write_26 (hc := by first | rfl | assumption) (k := ?_)
  exact loop ((σ 1 1).toNat + 1) 0 _ (by omega) (by omega) ho ht
set_option maxHeartbeats 4000000 in
theorem c_X9_written {V : Wd} {σ : St} {α : St} {i : Int} (h1 : inR i) (hk : OK α) (hX : RX α σ) : Ct V yX9_written cX9_written 2 (some .int) 4 86 [rv V 0, iv i] σ (PI (fun r τ => r = an_written α i ∧ RX (nx_written α i) τ ∧ MS σ τ)) := by
  refine ct_of (by decide) (Nat.le_of_ble_eq_true rfl) (fun X G T => ?_)
  have G : Gd X V cX9_written RX9 2 4 86 := G
  show AW X V σ 0 [] [some (rv V 0), some (iv i)]
  have hN : NetOK σ 1 := hX.1.ok hk.1
  obtain ⟨⟨e0, e1, er⟩, ⟨x1, x2⟩, xp, xl, xr, xi⟩ := id hX
  obtain ⟨⟨n1, n2, n3, n4, n5, n6⟩, u1, l1, l2, i1, s1, w1⟩ := id hk
  obtain ⟨p1, p2, p3, p4, p5, p6⟩ := id hN
  refine aw_iload_n G dX9_written_0 rfl ?_
  refine aw_iconst G dX9_written_1 ?_
  refine aw_icmp_ge (tgt := 12) G dX9_written_2 (by decide) (by first | omega | exact b01_R _ | exact bP_R _) (by first | omega | exact b01_R _ | exact bP_R _) (fun c2 => ?_) (fun c2 => ?_)
  · refine aw_aload_n G dX9_written_12 rfl ?_
    refine gf_X9_56 G dX9_written_13 (kk := ?_)
    refine aw_aload_n G dX9_written_16 rfl ?_
    refine gf_X9_10 G dX9_written_17 (kk := ?_)
    refine cv_X9_231 G dX9_written_20 (c_X8_write (by omega) p5) (kk := fun t20 h20 => ?_)
    obtain ⟨ho, ht⟩ := h20
    have hw : wtx σ 1 (σ 1 1).toNat = wtx α 75 (α 75 1).toNat := by rw [wtx_c ⟨e0, e1, er⟩ _ (by omega), e1]
    rw [hw] at ht
    have hlen := wtx_len α 75 (α 75 1).toNat
    have hct := ht.1
    refine aw_iload_n G dX9_written_23 rfl ?_
    refine aw_iconst G dX9_written_24 ?_
    refine aw_icmp_ne (tgt := 36) G dX9_written_25 (by decide) (by first | omega | exact b01_R _ | exact bP_R _) (by first | omega | exact b01_R _ | exact bP_R _) (fun c25 => ?_) (fun c25 => ?_)
    · refine aw_iload_n G dX9_written_36 rfl ?_
      refine aw_aload_n G dX9_written_37 rfl ?_
      refine gf_X9_56 G dX9_written_38 (kk := ?_)
      refine gf_X9_234 G dX9_written_41 (kk := ?_)
      refine aw_icmp_ge (tgt := 59) G dX9_written_44 (by decide) (by first | omega | exact b01_R _ | exact bP_R _) (by first | omega | exact b01_R _ | exact bP_R _) (fun c44 => ?_) (fun c44 => ?_)
      · refine aw_bipush G dX9_written_59 (k := ?_)
        exact aw_iret G T dX9_written_61 (⟨by unfold an_written sgn; rw [if_neg (by omega), if_neg (by omega)]; first | (rw [if_pos (by omega)]; have hz := ht.2 i.toNat (by omega); rw [show ((i.toNat : Nat) : Int) = i by omega] at hz; exact hz) | rw [if_neg (by omega)], by unfold nx_written; rw [if_neg (by omega)]; exact RX_c (fun k h => ho k (by unfold xP at h; simp; omega)) hX, fun k hk2 => ho k (by simp; omega)⟩)
      · refine aw_aload_n G dX9_written_47 rfl ?_
        refine gf_X9_56 G dX9_written_48 (kk := ?_)
        refine gf_X9_235 G dX9_written_51 (kk := ?_)
        refine aw_iload_n G dX9_written_54 rfl ?_
        refine aw_iaload G dX9_written_55 (by first | decide | assumption | omega) (by first | rfl | assumption) (by first | decide | assumption) (by omega) ?_
        refine aw_goto (tgt := 61) G dX9_written_56 (by decide) ?_
        exact aw_iret G T dX9_written_61 (⟨by unfold an_written sgn; rw [if_neg (by omega), if_neg (by omega)]; first | (rw [if_pos (by omega)]; have hz := ht.2 i.toNat (by omega); rw [show ((i.toNat : Nat) : Int) = i by omega] at hz; exact hz) | rw [if_neg (by omega)], by unfold nx_written; rw [if_neg (by omega)]; exact RX_c (fun k h => ho k (by unfold xP at h; simp; omega)) hX, fun k hk2 => ho k (by simp; omega)⟩)
    · refine aw_aload_n G dX9_written_28 rfl ?_
      refine gf_X9_56 G dX9_written_29 (kk := ?_)
      refine gf_X9_234 G dX9_written_32 (kk := ?_)
      exact aw_iret G T dX9_written_35 (⟨by rw [hct]; unfold an_written; rw [if_neg (by omega), if_pos (by omega)], by unfold nx_written; rw [if_neg (by omega)]; exact RX_c (fun k h => ho k (by unfold xP at h; simp; omega)) hX, fun k hk2 => ho k (by simp; omega)⟩)
  · refine aw_aload_n G dX9_written_5 rfl ?_
    refine aw_bipush G dX9_written_6 (k := ?_)
    refine cv_X9_77 G dX9_written_8 (c_X9_refused (by decide)) (kk := fun r8 t8 h8 => ?_)
    obtain ⟨rfl, ee8⟩ := h8
    obtain rfl := ee8.symm
    exact aw_iret G T dX9_written_11 (⟨by unfold an_written; (repeat' split) <;> first | rfl | (exfalso; omega) | omega, by unfold nx_written; (repeat' split) <;> first | exact hX | exact RX_ref hX (by decide) | (exfalso; omega), by first | exact MS.rf _ | exact (MS.rf _).up (by decide)⟩)
def WO (σ τ : St) : Prop := (∀ k, k ≠ 75 → k ≠ 93 → τ k = σ k) ∧ ∀ j : Int, j ≠ 24 → τ 75 j = σ 75 j
theorem WO.me {σ τ : St} (h : WO σ τ) : ME τ σ := ⟨pp_no (fun j hj => h.2 j (by omega)) (fun k hk => h.1 k (by omega) (by omega)), fun k hk => h.1 k (by omega) (by omega)⟩
theorem WO.up {σ τ : St} {j x y : Int} (h : WO σ τ) : WO σ (up (up τ 93 j x) 75 24 y) := ⟨fun k a b => by rw [up_ne a, up_ne b]; exact h.1 k a b, fun j' a => by rw [up_nj a, up_o (by decide)]; exact h.2 j' a⟩
set_option maxHeartbeats 4000000 in
theorem c_X10_writes {V : Wd} {σ : St} {ρ : St} {c : Int} {ls : List Int} (ho : WO ρ σ) (ht : isT (σ 93) (σ 75 24) ls) (hl : ls.length < 120) : Ct V yX10_writes cX10_writes 2 none 0 0 [rv V 75, iv c] σ (PV (fun τ => WO ρ τ ∧ isT (τ 93) (τ 75 24) (ls ++ [c]))) := by
  refine ct_of (by decide) (Nat.le_of_ble_eq_true rfl) (fun X G T => ?_)
  have G : Gd X V cX10_writes RX10 2 0 0 := G
  show AW X V σ 0 [] [some (rv V 75), some (iv c)]
  have hc := ht.1
  refine aw_aload_n G dX10_writes_0 rfl ?_
  refine gf_X10_66 G dX10_writes_1 (kk := ?_)
  refine aw_aload_n G dX10_writes_4 rfl ?_
  refine gf_X10_242 G dX10_writes_5 (kk := ?_)
  refine aw_iload_n G dX10_writes_8 rfl ?_
  refine aw_iastore G dX10_writes_9 (by first | decide | assumption | omega) (by first | rfl | assumption) (by first | decide | assumption) (by omega) ?_
  refine aw_aload_n G dX10_writes_10 rfl ?_
  refine aw_dup G dX10_writes_11 (k := ?_)
  refine gf_X10_242 G dX10_writes_12 (kk := ?_)
  rw [up_o (show (75:Nat) ≠ 93 by decide)]
  refine aw_iconst G dX10_writes_15 ?_
  refine aw_iadd G dX10_writes_16 ?_
  refine pf_X10_242 G dX10_writes_17 (kk := ?_)
  exact aw_vret G T dX10_writes_20 (⟨ho.up, by rw [up_at]; exact ht.add (up_ne (by decide))⟩)

set_option maxHeartbeats 4000000 in
theorem c_X10_writesAll {V : Wd} {σ : St}  (hn : 0 ≤ σ 75 1 ∧ σ 75 1 ≤ 8) (hR : RowOK σ 75) : Ct V yX10_writesAll cX10_writesAll 2 none 1 21 [rv V 75] σ (PV (fun τ => WO σ τ ∧ isT (τ 93) (τ 75 24) (wtx σ 75 (σ 75 1).toNat))) := by
  refine ct_of (by decide) (Nat.le_of_ble_eq_true rfl) (fun X G T => ?_)
  have G : Gd X V cX10_writesAll RX10 2 1 21 := G
  show AW X V σ 0 [] [some (rv V 75), none]
  have loop : ∀ (n0 : Nat) (i : Int) (τ : St), (0 ≤ i ∧ i ≤ σ 75 1) → (σ 75 1 < i + (n0 : Int)) → (WO σ τ) → (isT (τ 93) (τ 75 24) (wtx σ 75 i.toNat)) → AW X V (τ) 30 [] [some (rv V 75), some (iv i)] := by
    intro n0
    induction n0 with
    | zero =>
      intro i τ h0 h1 ho ht
      exfalso
      omega
    | succ n0 ih =>
      intro i τ h0 h1 ho ht
      refine aw_iload_n G dX10_writesAll_30 rfl ?_
      refine aw_aload_n G dX10_writesAll_31 rfl ?_
      refine gf_X10_82 G dX10_writesAll_32 (kk := ?_)
      rw [ho.2 1 (by decide)]
      refine aw_icmp_ge (tgt := 198) G dX10_writesAll_35 (by decide) (by first | omega | exact b01_R _ | exact bP_R _) (by first | omega | exact b01_R _ | exact bP_R _) (fun c35 => ?_) (fun c35 => ?_)
      · exact aw_vret G T dX10_writesAll_198 (⟨ho, by rw [show (σ 75 1).toNat = i.toNat by omega]; exact ht⟩)
      · have hln := wtx_len σ 75 i.toNat
        have hr := hR i (by omega) (by omega)
        simp only [Nat.reduceAdd] at hr
        refine aw_aload_n G dX10_writesAll_38 rfl ?_
        refine aw_bipush G dX10_writesAll_39 (k := ?_)
        refine cv_X10_245 G dX10_writesAll_41 (c_X10_writes ho ht (by first | omega | (simp only [List.length_append, List.length_cons, List.length_nil]; omega))) (kk := fun t41 h41 => ?_)
        obtain ⟨ho, ht⟩ := h41
        refine aw_aload_n G dX10_writesAll_44 rfl ?_
        refine aw_bipush G dX10_writesAll_45 (k := ?_)
        refine aw_aload_n G dX10_writesAll_47 rfl ?_
        refine gf_X10_13 G dX10_writesAll_48 (kk := ?_)
        refine aw_iload_n G dX10_writesAll_51 rfl ?_
        refine aw_iaload G dX10_writesAll_52 (by first | decide | assumption | omega) (by first | rfl | assumption) (by first | decide | assumption) (by omega) ?_
        rw [ho.1 76 (by decide) (by decide)]
        refine aw_iadd G dX10_writesAll_53 ?_
        refine cv_X10_245 G dX10_writesAll_54 (c_X10_writes ho ht (by first | omega | (simp only [List.length_append, List.length_cons, List.length_nil]; omega))) (kk := fun t54 h54 => ?_)
        obtain ⟨ho, ht⟩ := h54
        refine aw_aload_n G dX10_writesAll_57 rfl ?_
        refine aw_bipush G dX10_writesAll_58 (k := ?_)
        refine aw_aload_n G dX10_writesAll_60 rfl ?_
        refine gf_X10_20 G dX10_writesAll_61 (kk := ?_)
        refine aw_iload_n G dX10_writesAll_64 rfl ?_
        refine aw_iaload G dX10_writesAll_65 (by first | decide | assumption | omega) (by first | rfl | assumption) (by first | decide | assumption) (by omega) ?_
        rw [ho.1 78 (by decide) (by decide)]
        refine aw_iadd G dX10_writesAll_66 ?_
        refine cv_X10_245 G dX10_writesAll_67 (c_X10_writes ho ht (by first | omega | (simp only [List.length_append, List.length_cons, List.length_nil]; omega))) (kk := fun t67 h67 => ?_)
        obtain ⟨ho, ht⟩ := h67
        refine aw_aload_n G dX10_writesAll_70 rfl ?_
        refine aw_bipush G dX10_writesAll_71 (k := ?_)
        refine aw_aload_n G dX10_writesAll_73 rfl ?_
        refine gf_X10_23 G dX10_writesAll_74 (kk := ?_)
        refine aw_iload_n G dX10_writesAll_77 rfl ?_
        refine aw_iaload G dX10_writesAll_78 (by first | decide | assumption | omega) (by first | rfl | assumption) (by first | decide | assumption) (by omega) ?_
        rw [ho.1 79 (by decide) (by decide)]
        refine aw_iadd G dX10_writesAll_79 ?_
        refine cv_X10_245 G dX10_writesAll_80 (c_X10_writes ho ht (by first | omega | (simp only [List.length_append, List.length_cons, List.length_nil]; omega))) (kk := fun t80 h80 => ?_)
        obtain ⟨ho, ht⟩ := h80
        refine aw_aload_n G dX10_writesAll_83 rfl ?_
        refine aw_bipush G dX10_writesAll_84 (k := ?_)
        refine cv_X10_245 G dX10_writesAll_86 (c_X10_writes ho ht (by first | omega | (simp only [List.length_append, List.length_cons, List.length_nil]; omega))) (kk := fun t86 h86 => ?_)
        obtain ⟨ho, ht⟩ := h86
        refine aw_aload_n G dX10_writesAll_89 rfl ?_
        refine gf_X10_17 G dX10_writesAll_90 (kk := ?_)
        refine aw_iload_n G dX10_writesAll_93 rfl ?_
        refine aw_iaload G dX10_writesAll_94 (by first | decide | assumption | omega) (by first | rfl | assumption) (by first | decide | assumption) (by omega) ?_
        rw [ho.1 77 (by decide) (by decide)]
        refine aw_if_eq (tgt := 131) G dX10_writesAll_95 (by decide) (by first | omega | exact b01_R _ | exact bP_R _) (fun c95 => ?_) (fun c95 => ?_)
        · try simp only [b01_0, b01_n, bP_0, bP_n, Classical.not_not] at c95
          refine aw_aload_n G dX10_writesAll_131 rfl ?_
          refine gf_X10_26 G dX10_writesAll_132 (kk := ?_)
          refine aw_iload_n G dX10_writesAll_135 rfl ?_
          refine aw_iaload G dX10_writesAll_136 (by first | decide | assumption | omega) (by first | rfl | assumption) (by first | decide | assumption) (by omega) ?_
          rw [ho.1 80 (by decide) (by decide)]
          refine aw_if_eq (tgt := 192) G dX10_writesAll_137 (by decide) (by first | omega | exact b01_R _ | exact bP_R _) (fun c137 => ?_) (fun c137 => ?_)
          · try simp only [b01_0, b01_n, bP_0, bP_n, Classical.not_not] at c137
            refine aw_iinc_1 G dX10_writesAll_192 rfl (hc := by first | rfl | assumption) (k := ?_)
            refine aw_goto (tgt := 30) G dX10_writesAll_195 (by decide) ?_
            refine ih (i + 1) _ (by omega) (by omega) ho ?_
            rw [show (i + 1).toNat = i.toNat + 1 by omega]
            unfold wtx wln
            rw [show ((i.toNat : Nat) : Int) = i by omega]
            simp only [Nat.reduceAdd]
            first | rw [if_pos c95, if_pos c137] | rw [if_pos c95, if_neg c137] | rw [if_neg c95, if_pos c137] | rw [if_neg c95, if_neg c137]
            simp only [List.append_assoc, List.cons_append, List.nil_append, List.append_nil] at ht ⊢
            exact ht
          · try simp only [b01_0, b01_n, bP_0, bP_n, Classical.not_not] at c137
            refine aw_aload_n G dX10_writesAll_140 rfl ?_
            refine aw_bipush G dX10_writesAll_141 (k := ?_)
            refine cv_X10_245 G dX10_writesAll_143 (c_X10_writes ho ht (by first | omega | (simp only [List.length_append, List.length_cons, List.length_nil]; omega))) (kk := fun t143 h143 => ?_)
            obtain ⟨ho, ht⟩ := h143
            refine aw_aload_n G dX10_writesAll_146 rfl ?_
            refine aw_bipush G dX10_writesAll_147 (k := ?_)
            refine aw_iload_n G dX10_writesAll_149 rfl ?_
            refine aw_iadd G dX10_writesAll_150 ?_
            refine cv_X10_245 G dX10_writesAll_151 (c_X10_writes ho ht (by first | omega | (simp only [List.length_append, List.length_cons, List.length_nil]; omega))) (kk := fun t151 h151 => ?_)
            obtain ⟨ho, ht⟩ := h151
            refine aw_aload_n G dX10_writesAll_154 rfl ?_
            refine aw_bipush G dX10_writesAll_155 (k := ?_)
            refine aw_aload_n G dX10_writesAll_157 rfl ?_
            refine gf_X10_26 G dX10_writesAll_158 (kk := ?_)
            refine aw_iload_n G dX10_writesAll_161 rfl ?_
            refine aw_iaload G dX10_writesAll_162 (by first | decide | assumption | omega) (by first | rfl | assumption) (by first | decide | assumption) (by omega) ?_
            rw [ho.1 80 (by decide) (by decide)]
            refine aw_bipush G dX10_writesAll_163 (k := ?_)
            refine aw_idiv G dX10_writesAll_165 (by first | omega | exact b01_R _ | exact bP_R _) (by first | omega | exact b01_R _ | exact bP_R _) ?_
            rw [td_ed _ (by omega)]
            refine aw_iadd G dX10_writesAll_166 ?_
            refine cv_X10_245 G dX10_writesAll_167 (c_X10_writes ho ht (by first | omega | (simp only [List.length_append, List.length_cons, List.length_nil]; omega))) (kk := fun t167 h167 => ?_)
            obtain ⟨ho, ht⟩ := h167
            refine aw_aload_n G dX10_writesAll_170 rfl ?_
            refine aw_bipush G dX10_writesAll_171 (k := ?_)
            refine aw_aload_n G dX10_writesAll_173 rfl ?_
            refine gf_X10_26 G dX10_writesAll_174 (kk := ?_)
            refine aw_iload_n G dX10_writesAll_177 rfl ?_
            refine aw_iaload G dX10_writesAll_178 (by first | decide | assumption | omega) (by first | rfl | assumption) (by first | decide | assumption) (by omega) ?_
            rw [ho.1 80 (by decide) (by decide)]
            refine aw_bipush G dX10_writesAll_179 (k := ?_)
            refine aw_irem G dX10_writesAll_181 (by first | omega | exact b01_R _ | exact bP_R _) (by first | omega | exact b01_R _ | exact bP_R _) ?_
            rw [tm_em _ (by omega)]
            refine aw_iadd G dX10_writesAll_182 ?_
            refine cv_X10_245 G dX10_writesAll_183 (c_X10_writes ho ht (by first | omega | (simp only [List.length_append, List.length_cons, List.length_nil]; omega))) (kk := fun t183 h183 => ?_)
            obtain ⟨ho, ht⟩ := h183
            refine aw_aload_n G dX10_writesAll_186 rfl ?_
            refine aw_bipush G dX10_writesAll_187 (k := ?_)
            refine cv_X10_245 G dX10_writesAll_189 (c_X10_writes ho ht (by first | omega | (simp only [List.length_append, List.length_cons, List.length_nil]; omega))) (kk := fun t189 h189 => ?_)
            obtain ⟨ho, ht⟩ := h189
            refine aw_iinc_1 G dX10_writesAll_192 rfl (hc := by first | rfl | assumption) (k := ?_)
            refine aw_goto (tgt := 30) G dX10_writesAll_195 (by decide) ?_
            refine ih (i + 1) _ (by omega) (by omega) ho ?_
            rw [show (i + 1).toNat = i.toNat + 1 by omega]
            unfold wtx wln
            rw [show ((i.toNat : Nat) : Int) = i by omega]
            simp only [Nat.reduceAdd]
            first | rw [if_pos c95, if_pos c137] | rw [if_pos c95, if_neg c137] | rw [if_neg c95, if_pos c137] | rw [if_neg c95, if_neg c137]
            simp only [List.append_assoc, List.cons_append, List.nil_append, List.append_nil] at ht ⊢
            exact ht
        · try simp only [b01_0, b01_n, bP_0, bP_n, Classical.not_not] at c95
          refine aw_aload_n G dX10_writesAll_98 rfl ?_
          refine aw_bipush G dX10_writesAll_99 (k := ?_)
          refine cv_X10_245 G dX10_writesAll_101 (c_X10_writes ho ht (by first | omega | (simp only [List.length_append, List.length_cons, List.length_nil]; omega))) (kk := fun t101 h101 => ?_)
          obtain ⟨ho, ht⟩ := h101
          refine aw_aload_n G dX10_writesAll_104 rfl ?_
          refine aw_bipush G dX10_writesAll_105 (k := ?_)
          refine aw_iload_n G dX10_writesAll_107 rfl ?_
          refine aw_iadd G dX10_writesAll_108 ?_
          refine cv_X10_245 G dX10_writesAll_109 (c_X10_writes ho ht (by first | omega | (simp only [List.length_append, List.length_cons, List.length_nil]; omega))) (kk := fun t109 h109 => ?_)
          obtain ⟨ho, ht⟩ := h109
          refine aw_aload_n G dX10_writesAll_112 rfl ?_
          refine aw_bipush G dX10_writesAll_113 (k := ?_)
          refine aw_aload_n G dX10_writesAll_115 rfl ?_
          refine gf_X10_17 G dX10_writesAll_116 (kk := ?_)
          refine aw_iload_n G dX10_writesAll_119 rfl ?_
          refine aw_iaload G dX10_writesAll_120 (by first | decide | assumption | omega) (by first | rfl | assumption) (by first | decide | assumption) (by omega) ?_
          rw [ho.1 77 (by decide) (by decide)]
          refine aw_iadd G dX10_writesAll_121 ?_
          refine cv_X10_245 G dX10_writesAll_122 (c_X10_writes ho ht (by first | omega | (simp only [List.length_append, List.length_cons, List.length_nil]; omega))) (kk := fun t122 h122 => ?_)
          obtain ⟨ho, ht⟩ := h122
          refine aw_aload_n G dX10_writesAll_125 rfl ?_
          refine aw_bipush G dX10_writesAll_126 (k := ?_)
          refine cv_X10_245 G dX10_writesAll_128 (c_X10_writes ho ht (by first | omega | (simp only [List.length_append, List.length_cons, List.length_nil]; omega))) (kk := fun t128 h128 => ?_)
          obtain ⟨ho, ht⟩ := h128
          refine aw_aload_n G dX10_writesAll_131 rfl ?_
          refine gf_X10_26 G dX10_writesAll_132 (kk := ?_)
          refine aw_iload_n G dX10_writesAll_135 rfl ?_
          refine aw_iaload G dX10_writesAll_136 (by first | decide | assumption | omega) (by first | rfl | assumption) (by first | decide | assumption) (by omega) ?_
          rw [ho.1 80 (by decide) (by decide)]
          refine aw_if_eq (tgt := 192) G dX10_writesAll_137 (by decide) (by first | omega | exact b01_R _ | exact bP_R _) (fun c137 => ?_) (fun c137 => ?_)
          · try simp only [b01_0, b01_n, bP_0, bP_n, Classical.not_not] at c137
            refine aw_iinc_1 G dX10_writesAll_192 rfl (hc := by first | rfl | assumption) (k := ?_)
            refine aw_goto (tgt := 30) G dX10_writesAll_195 (by decide) ?_
            refine ih (i + 1) _ (by omega) (by omega) ho ?_
            rw [show (i + 1).toNat = i.toNat + 1 by omega]
            unfold wtx wln
            rw [show ((i.toNat : Nat) : Int) = i by omega]
            simp only [Nat.reduceAdd]
            first | rw [if_pos c95, if_pos c137] | rw [if_pos c95, if_neg c137] | rw [if_neg c95, if_pos c137] | rw [if_neg c95, if_neg c137]
            simp only [List.append_assoc, List.cons_append, List.nil_append, List.append_nil] at ht ⊢
            exact ht
          · try simp only [b01_0, b01_n, bP_0, bP_n, Classical.not_not] at c137
            refine aw_aload_n G dX10_writesAll_140 rfl ?_
            refine aw_bipush G dX10_writesAll_141 (k := ?_)
            refine cv_X10_245 G dX10_writesAll_143 (c_X10_writes ho ht (by first | omega | (simp only [List.length_append, List.length_cons, List.length_nil]; omega))) (kk := fun t143 h143 => ?_)
            obtain ⟨ho, ht⟩ := h143
            refine aw_aload_n G dX10_writesAll_146 rfl ?_
            refine aw_bipush G dX10_writesAll_147 (k := ?_)
            refine aw_iload_n G dX10_writesAll_149 rfl ?_
            refine aw_iadd G dX10_writesAll_150 ?_
            refine cv_X10_245 G dX10_writesAll_151 (c_X10_writes ho ht (by first | omega | (simp only [List.length_append, List.length_cons, List.length_nil]; omega))) (kk := fun t151 h151 => ?_)
            obtain ⟨ho, ht⟩ := h151
            refine aw_aload_n G dX10_writesAll_154 rfl ?_
            refine aw_bipush G dX10_writesAll_155 (k := ?_)
            refine aw_aload_n G dX10_writesAll_157 rfl ?_
            refine gf_X10_26 G dX10_writesAll_158 (kk := ?_)
            refine aw_iload_n G dX10_writesAll_161 rfl ?_
            refine aw_iaload G dX10_writesAll_162 (by first | decide | assumption | omega) (by first | rfl | assumption) (by first | decide | assumption) (by omega) ?_
            rw [ho.1 80 (by decide) (by decide)]
            refine aw_bipush G dX10_writesAll_163 (k := ?_)
            refine aw_idiv G dX10_writesAll_165 (by first | omega | exact b01_R _ | exact bP_R _) (by first | omega | exact b01_R _ | exact bP_R _) ?_
            rw [td_ed _ (by omega)]
            refine aw_iadd G dX10_writesAll_166 ?_
            refine cv_X10_245 G dX10_writesAll_167 (c_X10_writes ho ht (by first | omega | (simp only [List.length_append, List.length_cons, List.length_nil]; omega))) (kk := fun t167 h167 => ?_)
            obtain ⟨ho, ht⟩ := h167
            refine aw_aload_n G dX10_writesAll_170 rfl ?_
            refine aw_bipush G dX10_writesAll_171 (k := ?_)
            refine aw_aload_n G dX10_writesAll_173 rfl ?_
            refine gf_X10_26 G dX10_writesAll_174 (kk := ?_)
            refine aw_iload_n G dX10_writesAll_177 rfl ?_
            refine aw_iaload G dX10_writesAll_178 (by first | decide | assumption | omega) (by first | rfl | assumption) (by first | decide | assumption) (by omega) ?_
            rw [ho.1 80 (by decide) (by decide)]
            refine aw_bipush G dX10_writesAll_179 (k := ?_)
            refine aw_irem G dX10_writesAll_181 (by first | omega | exact b01_R _ | exact bP_R _) (by first | omega | exact b01_R _ | exact bP_R _) ?_
            rw [tm_em _ (by omega)]
            refine aw_iadd G dX10_writesAll_182 ?_
            refine cv_X10_245 G dX10_writesAll_183 (c_X10_writes ho ht (by first | omega | (simp only [List.length_append, List.length_cons, List.length_nil]; omega))) (kk := fun t183 h183 => ?_)
            obtain ⟨ho, ht⟩ := h183
            refine aw_aload_n G dX10_writesAll_186 rfl ?_
            refine aw_bipush G dX10_writesAll_187 (k := ?_)
            refine cv_X10_245 G dX10_writesAll_189 (c_X10_writes ho ht (by first | omega | (simp only [List.length_append, List.length_cons, List.length_nil]; omega))) (kk := fun t189 h189 => ?_)
            obtain ⟨ho, ht⟩ := h189
            refine aw_iinc_1 G dX10_writesAll_192 rfl (hc := by first | rfl | assumption) (k := ?_)
            refine aw_goto (tgt := 30) G dX10_writesAll_195 (by decide) ?_
            refine ih (i + 1) _ (by omega) (by omega) ho ?_
            rw [show (i + 1).toNat = i.toNat + 1 by omega]
            unfold wtx wln
            rw [show ((i.toNat : Nat) : Int) = i by omega]
            simp only [Nat.reduceAdd]
            first | rw [if_pos c95, if_pos c137] | rw [if_pos c95, if_neg c137] | rw [if_neg c95, if_pos c137] | rw [if_neg c95, if_neg c137]
            simp only [List.append_assoc, List.cons_append, List.nil_append, List.append_nil] at ht ⊢
            exact ht
  refine aw_aload_n G dX10_writesAll_0 rfl ?_
  refine aw_iconst G dX10_writesAll_1 ?_
  refine pf_X10_242 G dX10_writesAll_2 (kk := ?_)
  have ho : WO σ (up σ 75 24 0) := ⟨fun k a b => up_ne a, fun j a => up_nj a⟩
  have ht : isT (up σ 75 24 0 93) (up σ 75 24 0 75 24) [] := isT.z _
  refine aw_aload_n G dX10_writesAll_5 rfl ?_
  refine aw_bipush G dX10_writesAll_6 (k := ?_)
  refine cv_X10_245 G dX10_writesAll_8 (c_X10_writes ho ht (by first | omega | (simp only [List.length_append, List.length_cons, List.length_nil]; omega))) (kk := fun t8 h8 => ?_)
  obtain ⟨ho, ht⟩ := h8
  refine aw_aload_n G dX10_writesAll_11 rfl ?_
  refine aw_bipush G dX10_writesAll_12 (k := ?_)
  refine aw_aload_n G dX10_writesAll_14 rfl ?_
  refine gf_X10_7 G dX10_writesAll_15 (kk := ?_)
  rw [ho.2 0 (by decide)]
  refine aw_iadd G dX10_writesAll_18 ?_
  refine cv_X10_245 G dX10_writesAll_19 (c_X10_writes ho ht (by first | omega | (simp only [List.length_append, List.length_cons, List.length_nil]; omega))) (kk := fun t19 h19 => ?_)
  obtain ⟨ho, ht⟩ := h19
  refine aw_aload_n G dX10_writesAll_22 rfl ?_
  refine aw_bipush G dX10_writesAll_23 (k := ?_)
  refine cv_X10_245 G dX10_writesAll_25 (c_X10_writes ho ht (by first | omega | (simp only [List.length_append, List.length_cons, List.length_nil]; omega))) (kk := fun t25 h25 => ?_)
  obtain ⟨ho, ht⟩ := h25
  refine aw_iconst G dX10_writesAll_28 ?_
  refine aw_istore_1 G dX10_writesAll_29 (hc := by first | rfl | assumption) (k := ?_)
  exact loop ((σ 75 1).toNat + 1) 0 _ (by omega) (by omega) ho ht
set_option maxHeartbeats 4000000 in
theorem c_X10_written {V : Wd} {σ : St} {i : Int} (h1 : inR i) (hk : OK σ) : Ct V yX10_written cX10_written 2 (some .int) 2 42 [rv V 75, iv i] σ (PI (fun r τ => r = an_written σ i ∧ ME τ (nx_written σ i))) := by
  refine ct_of (by decide) (Nat.le_of_ble_eq_true rfl) (fun X G T => ?_)
  have G : Gd X V cX10_written RX10 2 2 42 := G
  show AW X V σ 0 [] [some (rv V 75), some (iv i)]
  obtain ⟨⟨n1, n2, n3, n4, n5, n6⟩, u1, l1, l2, i1, s1, w1⟩ := id hk
  refine aw_iload_n G dX10_written_0 rfl ?_
  refine aw_iconst G dX10_written_1 ?_
  refine aw_icmp_ge (tgt := 12) G dX10_written_2 (by decide) (by first | omega | exact b01_R _ | exact bP_R _) (by first | omega | exact b01_R _ | exact bP_R _) (fun c2 => ?_) (fun c2 => ?_)
  · refine aw_aload_n G dX10_written_12 rfl ?_
    refine cv_X10_248 G dX10_written_13 (c_X10_writesAll (by omega) n5) (kk := fun t13 h13 => ?_)
    obtain ⟨ho, ht⟩ := h13
    have hlen := wtx_len σ 75 (σ 75 1).toNat
    have hct := ht.1
    refine aw_iload_n G dX10_written_16 rfl ?_
    refine aw_if_ge (tgt := 27) G dX10_written_17 (by decide) (by first | omega | exact b01_R _ | exact bP_R _) (fun c17 => ?_) (fun c17 => ?_)
    · refine aw_iload_n G dX10_written_27 rfl ?_
      refine aw_aload_n G dX10_written_28 rfl ?_
      refine gf_X10_242 G dX10_written_29 (kk := ?_)
      refine aw_icmp_ge (tgt := 44) G dX10_written_32 (by decide) (by first | omega | exact b01_R _ | exact bP_R _) (by first | omega | exact b01_R _ | exact bP_R _) (fun c32 => ?_) (fun c32 => ?_)
      · refine aw_bipush G dX10_written_44 (k := ?_)
        exact aw_iret G T dX10_written_46 (⟨by first | (rw [hct]; unfold an_written; rw [if_neg (by omega), if_pos (by omega)]) | (unfold an_written sgn; rw [if_neg (by omega), if_neg (by omega), if_pos (by omega)]; have hz := ht.2 i.toNat (by omega); rw [show ((i.toNat : Nat) : Int) = i by omega] at hz; exact hz) | (unfold an_written sgn; rw [if_neg (by omega), if_neg (by omega), if_neg (by omega)]), by unfold nx_written; rw [if_neg (by omega)]; exact ho.me⟩)
      · refine aw_aload_n G dX10_written_35 rfl ?_
        refine gf_X10_66 G dX10_written_36 (kk := ?_)
        refine aw_iload_n G dX10_written_39 rfl ?_
        refine aw_iaload G dX10_written_40 (by first | decide | assumption | omega) (by first | rfl | assumption) (by first | decide | assumption) (by omega) ?_
        refine aw_goto (tgt := 46) G dX10_written_41 (by decide) ?_
        exact aw_iret G T dX10_written_46 (⟨by first | (rw [hct]; unfold an_written; rw [if_neg (by omega), if_pos (by omega)]) | (unfold an_written sgn; rw [if_neg (by omega), if_neg (by omega), if_pos (by omega)]; have hz := ht.2 i.toNat (by omega); rw [show ((i.toNat : Nat) : Int) = i by omega] at hz; exact hz) | (unfold an_written sgn; rw [if_neg (by omega), if_neg (by omega), if_neg (by omega)]), by unfold nx_written; rw [if_neg (by omega)]; exact ho.me⟩)
    · refine aw_aload_n G dX10_written_20 rfl ?_
      refine gf_X10_242 G dX10_written_21 (kk := ?_)
      refine aw_goto (tgt := 46) G dX10_written_24 (by decide) ?_
      exact aw_iret G T dX10_written_46 (⟨by first | (rw [hct]; unfold an_written; rw [if_neg (by omega), if_pos (by omega)]) | (unfold an_written sgn; rw [if_neg (by omega), if_neg (by omega), if_pos (by omega)]; have hz := ht.2 i.toNat (by omega); rw [show ((i.toNat : Nat) : Int) = i by omega] at hz; exact hz) | (unfold an_written sgn; rw [if_neg (by omega), if_neg (by omega), if_neg (by omega)]), by unfold nx_written; rw [if_neg (by omega)]; exact ho.me⟩)
  · refine aw_aload_n G dX10_written_5 rfl ?_
    refine aw_bipush G dX10_written_6 (k := ?_)
    refine cv_X10_87 G dX10_written_8 (c_X10_refused (by decide)) (kk := fun r8 t8 h8 => ?_)
    obtain ⟨rfl, ee8⟩ := h8
    obtain rfl := ee8.symm
    exact aw_iret G T dX10_written_11 (⟨by unfold an_written; (repeat' split) <;> first | rfl | (exfalso; omega) | omega, by unfold nx_written; (repeat' split) <;> first | exact ME.rf _ | (exfalso; omega)⟩)
