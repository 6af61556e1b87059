def FX (an : St → Int) (nx : St → St) : Prop := (∀ σ τ, OK σ → MS σ τ → an τ = an σ ∧ pp (nx τ) = pp (nx σ)) ∧ (∀ α k, OK α → k < 75 → nx α k = α k) ∧ ∀ α, OK α → OK (nx α)
theorem FX.of {an : St → Int} {nx : St → St} (ha : ∀ α, an α = an (cut α)) (hl : LC nx) (ho : ∀ α, OK α → OK (nx α)) : FX an nx :=
  ⟨fun σ τ _ h => ⟨by rw [ha τ, ha σ, cut_e h], hl.p h⟩, fun α k _ hk => hl.2 α k hk, ho⟩
theorem fx_step {an : St → Int} {nx : St → St} (F : FX an nx) {σ τ1 τ2 : St} {r1 r2 : Int} (hO : OK σ) (h1 : r1 = an σ ∧ RX (nx σ) τ1 ∧ MS σ τ1) (h2 : r2 = an τ1 ∧ ME τ2 (nx τ1)) : r1 = r2 ∧ OK τ2 ∧ RX τ2 τ2 := by
  obtain ⟨f1, f2, f3⟩ := F
  obtain ⟨a1, a2, a3⟩ := h1
  obtain ⟨b1, b2⟩ := h2
  have hO1 := OK.ms a3 hO
  obtain ⟨g1, g2⟩ := f1 σ τ1 hO a3
  refine ⟨by rw [a1, b1, g1], OK.pp b2.1 (f3 τ1 hO1), RX.cc (α := nx σ) (by rw [b2.1, g2]) (fun k hk => by rw [b2.2 k hk, f2 τ1 k hO1 hk]) a2⟩
/-- what a text tells -/
theorem txt_0 {α : St} (h : OK α) (hm : misF α = -1) : TO 75 (up α 75 12 0) (tellR α).2 ∧ NetOK (tellR α).2 75 := by
  have h12 := h.2.2.1
  have hn : NetOK (up α 75 12 0) 75 := net_c (α := α) (up_nj (by decide)) (up_nj (by decide)) (fun k _ _ => up_ne (by omega)) h.1
  exact tell_to (α 75 12).toNat 0 0 (up α 75 12 0) (Int.le_refl 0) h12.1 (by unfold misF at hm; rw [show α 75 12 - 0 = α 75 12 by omega]; exact hm) hn
theorem txt_1 {σ τ : St} (h : OK σ) (hs : MS σ τ) (hm : misF σ = -1) : (tellR τ).1 = (tellR σ).1 ∧ NetEq (tellR τ).2 75 (tellR σ).2 75 := by
  have h12 := h.2.2.1
  have e84 : τ 84 = σ 84 := hs 84 (by decide)
  have e75 : τ 75 = σ 75 := hs 75 (by decide)
  unfold tellR
  rw [e84, e75]
  refine tell_eq (fun _ _ _ => rfl) (σ 75 12).toNat 0 0 (up τ 75 12 0) (up σ 75 12 0) (Int.le_refl 0) h12.1 (by unfold misF at hm; rw [show σ 75 12 - 0 = σ 75 12 by omega]; exact hm) ?_
  refine ⟨by rw [up_nj (by decide), up_nj (by decide), e75], by rw [up_nj (by decide), up_nj (by decide), e75], fun i _ _ => ?_⟩
  rw [up_o (by decide), up_o (by decide), up_o (by decide), up_o (by decide), up_o (by decide), up_o (by decide), up_o (by decide), up_o (by decide), up_o (by decide), up_o (by decide), hs (75 + 1) (by decide), hs (75 + 2) (by decide), hs (75 + 3) (by decide), hs (75 + 4) (by decide), hs (75 + 5) (by decide)]
  exact ⟨rfl, rfl, rfl, rfl, rfl⟩
theorem mis_m {σ τ : St} (hs : MS σ τ) : misF τ = misF σ := by
  unfold misF
  rw [hs 84 (by decide), hs 75 (by decide)]
theorem up75_ok {α : St} (h : OK α) : OK (up α 75 12 0) := by
  obtain ⟨a, b, c', d, e, f, g⟩ := h
  exact ⟨net_c (up_nj (by decide)) (up_nj (by decide)) (fun k _ _ => up_ne (by omega)) a, by rw [up_nj (by decide)]; exact b, by rw [up_at]; decide, fun i i0 i1 => by rw [up_at] at i1; omega, img_c (up_ne (by decide)) (up_nj (by decide)) e, lis_c (up_ne (by decide)) (up_ne (by decide)) f, pas_c (up_ne (by decide)) (up_ne (by decide)) (up_ne (by decide)) (up_nj (by decide)) g⟩
theorem pp_u {a b : St} (h : ∀ k, 75 ≤ k → a k = b k) : pp a = pp b := pp_no (fun j _ => by rw [h 75 (by decide)]) (fun k hk => h k (by omega))
theorem fx_text : FX an_text nx_text := by
  refine ⟨fun σ τ hO hs => ?_, fun α k hO hk => ?_, fun α hO => ?_⟩
  · have hm := mis_m hs
    unfold an_text nx_text
    rw [hm]
    by_cases c : misF σ = -1
    · obtain ⟨t1, t2⟩ := txt_1 hO hs c
      obtain ⟨s1, -⟩ := txt_0 hO c
      obtain ⟨s2, -⟩ := txt_0 (OK.ms hs hO) (by rw [hm]; exact c)
      rw [if_pos c, if_pos c, if_pos c, if_pos c, t1]
      refine ⟨rfl, ?_⟩
      by_cases c2 : 0 ≤ (tellR σ).1
      · rw [if_pos c2, if_pos c2]
        obtain ⟨e0, e1, er⟩ := t2
        refine pp_no (fun j hj => ?_) (fun k hk => ?_)
        · by_cases j7 : j = 7
          · rw [j7, up_at, up_at]
          · rw [up_nj j7, up_nj j7]
            by_cases j0 : j = 0
            · rw [j0]; exact e0
            · by_cases j1 : j = 1
              · rw [j1]; exact e1
              · rw [s1.2.1 j j0 j1, s2.2.1 j j0 j1]
                unfold up
                rw [hs 75 (by decide)]
        · rw [up_ne (by omega), up_ne (by omega)]
          by_cases k5 : k ≤ 80
          · funext j
            by_cases jr : 0 ≤ j ∧ j < 8
            · obtain ⟨r1, r2, r3, r4, r5⟩ := er j jr.1 jr.2
              rcases (show k = 75 + 1 ∨ k = 75 + 2 ∨ k = 75 + 3 ∨ k = 75 + 4 ∨ k = 75 + 5 by omega) with z | z | z | z | z <;> rw [z] <;> assumption
            · rw [s1.2.2 k (by omega) (by omega) j jr, s2.2.2 k (by omega) (by omega) j jr, up_o (by omega), up_o (by omega), hs k (by omega)]
          · rw [s1.1 k (by omega), s2.1 k (by omega), up_ne (by omega), up_ne (by omega), hs k (by omega)]
      · rw [if_neg c2, if_neg c2]
        exact pp_u fun k hk => by unfold up; rw [hs k hk]
    · rw [if_neg c, if_neg c, if_neg c, if_neg c]
      exact ⟨rfl, pp_u fun k hk => by unfold up; rw [hs k hk]⟩
  · unfold nx_text
    by_cases c : misF α = -1
    · obtain ⟨s1, -⟩ := txt_0 hO c
      rw [if_pos c]
      split
      · rw [up_ne (by omega), s1.1 k (by omega), up_ne (by omega)]
      · rw [up_ne (by omega)]
    · rw [if_neg c, up_ne (by omega)]
  · unfold nx_text
    by_cases c : misF α = -1
    · obtain ⟨s1, s2⟩ := txt_0 hO c
      rw [if_pos c]
      split
      · refine net_ok hO (net_c (up_nj (by decide)) (up_nj (by decide)) (fun k _ _ => up_ne (by omega)) s2) (up_at _ _ _ _) (Or.inr ?_) ?_ (fun k hk => ?_)
        · rw [up_nj (by decide), s1.2.1 12 (by decide) (by decide), up_at]
        · rw [up_nj (by decide), s1.2.1 26 (by decide) (by decide), up_nj (by decide)]
        · rw [up_ne (by omega), s1.1 k (by omega), up_ne (by omega)]
      · exact up75_ok hO
    · rw [if_neg c]
      exact up75_ok hO
theorem wtx_cut (α : St) : ∀ n : Nat, wtx (cut α) 75 n = wtx α 75 n
  | 0 => rfl
  | n + 1 => by
    unfold wtx
    rw [wtx_cut α n]
    rfl
theorem fx_of (l w : Int) : FX (fun α => an_of α l w) (fun α => nx_of α l w) := FX.of (fun _ => rfl) (by
  unfold nx_of
  (repeat' first | exact LC.i | exact LC.r _ | refine LC.t (fun _ => Iff.rfl) ?_ ?_)) (fun α h => by
  unfold nx_of
  (repeat' split) <;> first | exact h | exact OK.rf h _)
theorem fx_taken (l k : Int) : FX (fun α => an_taken α l k) (fun α => nx_taken α l k) := FX.of (fun _ => rfl) (by
  unfold nx_taken
  (repeat' first | exact LC.i | exact LC.r _ | refine LC.t (fun _ => Iff.rfl) ?_ ?_)) (fun α h => by
  unfold nx_taken
  (repeat' split) <;> first | exact h | exact OK.rf h _)
theorem fx_table (p l : Int) : FX (fun α => an_table α p l) (fun α => nx_table α p l) := FX.of (fun _ => rfl) (by
  unfold nx_table
  (repeat' first | exact LC.i | exact LC.r _ | refine LC.t (fun _ => Iff.rfl) ?_ ?_)) (fun α h => by
  unfold nx_table
  (repeat' split) <;> first | exact h | exact OK.rf h _)
theorem fx_sum (p : Int) : FX (fun α => an_sum α p) (fun α => nx_sum α p) := FX.of (fun _ => rfl) (by
  unfold nx_sum
  (repeat' first | exact LC.i | exact LC.r _ | refine LC.t (fun _ => Iff.rfl) ?_ ?_)) (fun α h => by
  unfold nx_sum
  (repeat' split) <;> first | exact h | exact OK.rf h _)
theorem fx_rule (r : Int) : FX (fun α => an_rule α r) (fun α => nx_rule α r) := FX.of (fun _ => rfl) (by
  unfold nx_rule
  (repeat' first | exact LC.i | exact LC.r _ | refine LC.t (fun _ => Iff.rfl) ?_ ?_)) (fun α h => by
  unfold nx_rule
  (repeat' split) <;> first | exact h | exact OK.rf h _)
theorem fx_ranked (k : Int) : FX (fun α => an_ranked α k) (fun α => nx_ranked α k) := FX.of (fun _ => rfl) (by
  unfold nx_ranked
  (repeat' first | exact LC.i | exact LC.r _ | refine LC.t (fun _ => Iff.rfl) ?_ ?_)) (fun α h => by
  unfold nx_ranked
  (repeat' split) <;> first | exact h | exact OK.rf h _)
theorem fx_ways (ru k i l : Int) : FX (fun α => an_ways α ru k i l) (fun α => nx_ways α ru k i l) := FX.of (fun _ => rfl) (by
  unfold nx_ways
  (repeat' first | exact LC.i | exact LC.r _ | refine LC.t (fun _ => Iff.rfl) ?_ ?_)) (fun α h => by
  unfold nx_ways
  (repeat' split) <;> first | exact h | exact OK.rf h _)
theorem fx_magic (r i l : Int) : FX (fun α => an_magic α r i l) (fun α => nx_magic α r i l) := FX.of (fun _ => rfl) (by
  unfold nx_magic
  (repeat' first | exact LC.i | exact LC.r _ | refine LC.t (fun _ => Iff.rfl) ?_ ?_)) (fun α h => by
  unfold nx_magic
  (repeat' split) <;> first | exact h | exact OK.rf h _)
theorem fx_difference (j r : Int) : FX (fun α => an_difference α j r) (fun α => nx_difference α j r) := FX.of (fun _ => rfl) (by
  unfold nx_difference
  (repeat' first | exact LC.i | exact LC.r _ | refine LC.t (fun _ => Iff.rfl) ?_ ?_)) (fun α h => by
  unfold nx_difference
  (repeat' split) <;> first | exact h | exact OK.rf h _)
theorem fx_orders (i l : Int) : FX (fun α => an_orders α i l) (fun α => nx_orders α i l) := FX.of (fun _ => rfl) (by
  unfold nx_orders
  (repeat' first | exact LC.i | exact LC.r _ | refine LC.t (fun _ => Iff.rfl) ?_ ?_)) (fun α h => by
  unfold nx_orders
  (repeat' split) <;> first | exact h | exact OK.rf h _)
theorem fx_odds (ru k v : Int) : FX (fun α => an_odds α ru k v) (fun α => nx_odds α ru k v) := FX.of (fun _ => rfl) (by
  unfold nx_odds
  (repeat' first | exact LC.i | exact LC.r _ | refine LC.t (fun _ => Iff.rfl) ?_ ?_)) (fun α h => by
  unfold nx_odds
  (repeat' split) <;> first | exact h | exact OK.rf h _)
theorem fx_lots (ru n z v : Int) : FX (fun α => an_lots α ru n z v) (fun α => nx_lots α ru n v) := FX.of (fun _ => rfl) (by
  unfold nx_lots
  (repeat' first | exact LC.i | exact LC.r _ | refine LC.t (fun _ => Iff.rfl) ?_ ?_)) (fun α h => by
  unfold nx_lots
  (repeat' split) <;> first | exact h | exact OK.rf h _)
theorem fx_rank (a : Int) : FX (fun α => an_rank α a) (fun α => nx_rank α a) := FX.of (fun _ => rfl) (by
  unfold nx_rank
  (repeat' first | exact LC.i | exact LC.r _ | refine LC.t (fun _ => Iff.rfl) ?_ ?_)) (fun α h => by
  unfold nx_rank
  (repeat' split) <;> first | exact h | exact OK.rf h _)
theorem fx_parts (p : Int) : FX (fun α => an_parts α p) (fun α => nx_parts α p) := FX.of (fun _ => rfl) (by
  unfold nx_parts
  (repeat' first | exact LC.i | exact LC.r _ | refine LC.t (fun _ => Iff.rfl) ?_ ?_)) (fun α h => by
  unfold nx_parts
  (repeat' split) <;> first | exact h | exact OK.rf h _)
theorem fx_sides (p : Int) : FX (fun α => an_sides α p) (fun α => nx_sides α p) := FX.of (fun _ => rfl) (by
  unfold nx_sides
  (repeat' first | exact LC.i | exact LC.r _ | refine LC.t (fun _ => Iff.rfl) ?_ ?_)) (fun α h => by
  unfold nx_sides
  (repeat' split) <;> first | exact h | exact OK.rf h _)
theorem fx_written (i : Int) : FX (fun α => an_written α i) (fun α => nx_written α i) := FX.of (fun α => by unfold an_written; rw [c75, wtx_cut]) (by
  unfold nx_written
  (repeat' first | exact LC.i | exact LC.r _ | refine LC.t (fun _ => Iff.rfl) ?_ ?_)) (fun α h => by
  unfold nx_written
  (repeat' split) <;> first | exact h | exact OK.rf h _)
theorem fx_look (l i : Int) : FX (fun α => an_look α l i) (fun α => nx_look α l) := FX.of (fun _ => rfl) (by
  unfold nx_look
  (repeat' first | exact LC.i | exact LC.r _ | refine LC.t (fun _ => Iff.rfl) ?_ ?_)) (fun α h => by
  unfold nx_look
  (repeat' split) <;> first | exact h | exact OK.rf h _)
theorem fx_judge (l : Int) : FX (fun α => an_judge α l) (fun α => nx_judge α l) := FX.of (fun _ => rfl) (by
  unfold nx_judge
  (repeat' first | exact LC.i | exact LC.r _ | refine LC.t (fun _ => Iff.rfl) ?_ ?_)) (fun α h => by
  unfold nx_judge
  (repeat' split) <;> first | exact h | exact OK.rf h _)
theorem fx_rules (l : Int) : FX (fun α => an_rules α l) (fun α => nx_rules α l) := FX.of (fun _ => rfl) (by
  unfold nx_rules
  (repeat' first | exact LC.i | exact LC.r _ | refine LC.t (fun _ => Iff.rfl) ?_ ?_)) (fun α h => by
  unfold nx_rules
  (repeat' split) <;> first | exact h | exact OK.rf h _)
theorem fx_total : FX an_total (fun α => α) := FX.of (fun _ => rfl) LC.i (fun _ h => h)
theorem fx_settled : FX an_settled (fun α => α) := FX.of (fun _ => rfl) LC.i (fun _ h => h)
theorem fx_spread : FX an_spread (fun α => α) := FX.of (fun _ => rfl) LC.i (fun _ h => h)
theorem fx_count (v : Int) : FX (fun α => an_count α v) (fun α => α) := FX.of (fun _ => rfl) LC.i (fun _ h => h)
theorem fx_letter (c : Int) : FX (fun α => an_letter α c) (fun α => nx_letter α c) := FX.of (fun _ => rfl) (by
  unfold nx_letter
  (repeat' first | exact LC.i | exact LC.r _ | exact LC.can | refine LC.t (fun _ => Iff.rfl) ?_ ?_ | refine LC.u ?_ (by decide) (fun _ => rfl) (fun _ => rfl))) (fun α h => by
  unfold nx_letter
  (repeat' split) <;> first | exact h | exact OK.rf h _ | exact let_ok h (by omega) (by omega))
theorem fx_points (n : Int) : FX (fun α => an_points α n) (fun α => nx_points α n) := FX.of (fun _ => rfl) (by
  unfold nx_points
  (repeat' first | exact LC.i | exact LC.r _ | exact LC.can | refine LC.t (fun _ => Iff.rfl) ?_ ?_ | refine LC.u ?_ (by decide) (fun _ => rfl) (fun _ => rfl))) (fun α h => by
  unfold nx_points
  (repeat' split) <;> first | exact h | exact OK.rf h _ | exact pts_ok h (by omega))
theorem fx_line (k p q : Int) : FX (fun α => an_line α k p q) (fun α => nx_line α k p q) := FX.of (fun _ => rfl) (by
  unfold nx_line addLine
  (repeat' first | exact LC.i | exact LC.r _ | exact LC.can | refine LC.t (fun _ => Iff.rfl) ?_ ?_ | refine LC.u ?_ (by decide) (fun _ => rfl) (fun _ => rfl))) (fun α h => by
  unfold nx_line
  (repeat' split) <;> first | exact h | exact OK.rf h _ | exact lin_ok h (by omega) (by omega) (by omega) (by omega))
theorem fx_drop : FX (an_drop) (nx_drop) := FX.of (fun _ => rfl) (by
  show LC (fun α => nx_drop α); unfold nx_drop
  (repeat' first | exact LC.i | exact LC.r _ | exact LC.can | refine LC.t (fun _ => Iff.rfl) ?_ ?_ | refine LC.u ?_ (by decide) (fun _ => rfl) (fun _ => rfl))) (fun α h => by
  unfold nx_drop
  (repeat' split) <;> first | exact h | exact OK.rf h _ | exact drp_ok h (by omega))
theorem fx_label (l v : Int) : FX (fun α => an_label α l v) (fun α => nx_label α l v) := FX.of (fun _ => rfl) (by
  unfold nx_label
  (repeat' first | exact LC.i | exact LC.r _ | exact LC.can | refine LC.t (fun _ => Iff.rfl) ?_ ?_ | refine LC.u ?_ (by decide) (fun _ => rfl) (fun _ => rfl))) (fun α h => by
  unfold nx_label
  (repeat' split) <;> first | exact h | exact OK.rf h _ | exact row_ok (can_ok h) (by omega))
theorem fx_turn (l k f : Int) : FX (fun α => an_turn α l k f) (fun α => nx_turn α l k f) := FX.of (fun _ => rfl) (by
  unfold nx_turn
  (repeat' first | exact LC.i | exact LC.r _ | exact LC.can | refine LC.t (fun _ => Iff.rfl) ?_ ?_ | refine LC.u ?_ (by decide) (fun _ => rfl) (fun _ => rfl))) (fun α h => by
  unfold nx_turn
  (repeat' split) <;> first | exact h | exact OK.rf h _ | exact row_ok (row_ok (can_ok h) (by omega)) (by omega))
theorem fx_list (l m : Int) : FX (fun _ => an_list l m) (fun α => nx_list α l m) := FX.of (fun _ => rfl) (by
  unfold nx_list
  (repeat' first | exact LC.i | exact LC.r _ | exact LC.can | refine LC.t (fun _ => Iff.rfl) ?_ ?_ | refine LC.f (fun α k j hk => ?_) (fun α k j hk => ?_))
  · simp only [up, cut_k hk, c75, c76, c77, c78, c79, c80, c81, c82, c83, c84, c85, c86, c87, c95]
  · simp only [up]
    (repeat' split) <;> first | rfl | omega) (fun α h => by
  unfold nx_list
  (repeat' split) <;> first | exact h | exact OK.rf h _ | exact lst_ok h (by omega) (by omega))
theorem fx_put (l i v : Int) (hv : inR v) : FX (fun α => an_put α l i) (fun α => nx_put α l i v) := FX.of (fun _ => rfl) (by
  unfold nx_put
  (repeat' first | exact LC.i | exact LC.r _ | exact LC.can | refine LC.t (fun _ => Iff.rfl) ?_ ?_ | refine LC.u ?_ (by decide) (fun _ => rfl) (fun _ => rfl))) (fun α h => by
  unfold nx_put
  (repeat' split) <;> first | exact h | exact OK.rf h _ | exact put_ok h hv)
theorem fx_lays (l i : Int) : FX (fun α => an_lays α l i) (fun α => nx_lays α l i) := FX.of (fun _ => rfl) (by
  unfold nx_lays
  (repeat' first | exact LC.i | exact LC.r _ | refine LC.t (fun _ => Iff.rfl) ?_ ?_ | refine LC.f (fun α k j hk => ?_) (fun α k j hk => ?_))
  · have e : nsum (cut α) 75 = nsum α 75 := rfl
    simp only [cut_k hk, c75, e]
  · (repeat' split) <;> first | rfl | omega) (fun α h => by
  unfold nx_lays
  (repeat' split) <;> first | exact h | exact OK.rf h _ | exact lay_ok h)
theorem fx_gives (l : Int) : FX (fun α => an_gives α l) (fun α => nx_gives α l) := FX.of (fun _ => rfl) (by
  unfold nx_gives
  (repeat' first | exact LC.i | exact LC.r _ | refine LC.t (fun _ => Iff.rfl) ?_ ?_ | refine LC.f (fun α k j hk => ?_) (fun α k j hk => ?_))
  · have hc : canU α k j = canU (cut α) k j := by
      have hz := congrFun (LC.can.1 α) k
      rw [cut_k hk, cut_k hk] at hz
      rw [hz]
    rw [hc]
    rfl
  · rw [if_neg (by omega)]
    exact congrFun (LC.can.2 α k hk) j) (fun α h => by
  unfold nx_gives
  split
  · exact OK.rf h _
  · split
    · exact h
    · by_cases hg : givesP α l
      · rw [@if_pos _ (Classical.propDecidable _) hg]
        exact giv_ok (can_ok h) (fun j j0 j1 => hg.2 j j0 j1)
      · rw [@if_neg _ (Classical.propDecidable _) hg]
        exact OK.rf h _)
theorem fx_undo : FX (an_undo) (nx_undo) := FX.of (fun _ => rfl) (by
  show LC (fun α => nx_undo α); unfold nx_undo
  (repeat' first | exact LC.i | exact LC.r _ | refine LC.t (fun _ => Iff.rfl) ?_ ?_ | refine LC.u ?_ (by decide) (fun _ => rfl) (fun _ => rfl) | refine LC.f (fun α k j hk => ?_) (fun α k j hk => ?_))
  · simp only [up, cut_k hk, c75, c76, c77, c78, c79, c80, c81, c82, c83, c84, c85, c86, c87, c95]
  · (repeat' split) <;> first | rfl | omega) (fun α h => by
  unfold nx_undo
  (repeat' split) <;> first | exact h | exact OK.rf h _ | exact und_ok h (by omega))
theorem fx_image : FX (an_image) (nx_image) := FX.of (fun _ => rfl) (by
  show LC (fun α => nx_image α); unfold nx_image
  (repeat' first | exact LC.i | exact LC.r _ | refine LC.t (fun _ => Iff.rfl) ?_ ?_ | refine LC.u ?_ (by decide) (fun _ => rfl) (fun _ => rfl) | refine LC.f (fun α k j hk => ?_) (fun α k j hk => ?_))
  · unfold keepR
    simp only [up, cut_k hk, c75, c76, c77, c78, c79, c80, c81, c82, c83, c84, c85, c86, c87, c95]
  · unfold keepR
    try simp only [up]
    (repeat' split) <;> first | rfl | omega) (fun α h => by
  unfold nx_image
  (repeat' split) <;> first | exact h | exact OK.rf h _ | exact ima_ok h)
theorem fx_on : FX (an_on) (nx_on) := FX.of (fun _ => rfl) (by
  show LC (fun α => nx_on α); unfold nx_on
  (repeat' first | exact LC.i | exact LC.r _ | refine LC.t (fun _ => Iff.rfl) ?_ ?_ | refine LC.u ?_ (by decide) (fun _ => rfl) (fun _ => rfl) | refine LC.f (fun α k j hk => ?_) (fun α k j hk => ?_))
  · unfold backR
    simp only [up, cut_k hk, c75, c76, c77, c78, c79, c80, c81, c82, c83, c84, c85, c86, c87, c95]
  · unfold backR
    try simp only [up]
    (repeat' split) <;> first | rfl | omega) (fun α h => by
  unfold nx_on
  (repeat' split) <;> first | exact h | exact OK.rf h _ | exact on_ok h (by omega))
