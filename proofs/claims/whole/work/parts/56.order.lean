def cut (α : St) : St := fun k => if 75 ≤ k then α k else fun _ => 0
theorem cut_e {σ τ : St} (h : MS σ τ) : cut τ = cut σ := by
  funext k
  unfold cut
  by_cases e : 75 ≤ k
  · rw [if_pos e, if_pos e, h k e]
  · rw [if_neg e, if_neg e]
theorem cut_k {α : St} {k : Nat} (h : 75 ≤ k) : cut α k = α k := if_pos h
theorem cut_p {a b : St} (h : cut a = cut b) : pp a = pp b := pp_no (fun j _ => by rw [← cut_k (α := a) (k := 75) (by decide), h, cut_k (by decide)]) (fun k hk => by rw [← cut_k (α := a) (k := k) (by omega), h, cut_k (by omega)])
/-- a change that looks at the reference's cells alone, and changes no others -/
def LC (f : St → St) : Prop := (∀ α, cut (f α) = cut (f (cut α))) ∧ ∀ α k, k < 75 → f α k = α k
theorem LC.p {f : St → St} (h : LC f) {σ τ : St} (hm : MS σ τ) : pp (f τ) = pp (f σ) := cut_p (by rw [h.1 τ, h.1 σ, cut_e hm])
theorem cut_cut (α : St) : cut (cut α) = cut α := by
  funext k
  unfold cut
  by_cases e : 75 ≤ k
  · rw [if_pos e, if_pos e]
  · rw [if_neg e, if_neg e]
theorem LC.i : LC (fun α => α) := ⟨fun α => (cut_cut α).symm, fun _ _ _ => rfl⟩
theorem cut_up {α β : St} (h : cut α = cut β) (k : Nat) (j x : Int) : cut (up α k j x) = cut (up β k j x) := by
  funext k' j'
  have hk : cut α k' = cut β k' := by rw [h]
  unfold cut at hk ⊢
  by_cases e : 75 ≤ k'
  · rw [if_pos e, if_pos e] at hk ⊢
    unfold up
    rw [hk]
  · rw [if_neg e, if_neg e]
theorem LC.u {f : St → St} (h : LC f) {k : Nat} (hk : 75 ≤ k) {jx x : St → Int} (hj : ∀ α, jx α = jx (cut α)) (hx : ∀ α, x α = x (cut α)) : LC (fun α => up (f α) k (jx α) (x α)) := by
  refine ⟨fun α => ?_, fun α k' h' => ?_⟩
  · show cut (up (f α) k (jx α) (x α)) = cut (up (f (cut α)) k (jx (cut α)) (x (cut α)))
    rw [← hj α, ← hx α]
    exact cut_up (h.1 α) k _ _
  · show up (f α) k (jx α) (x α) k' = α k'
    rw [up_ne (by omega)]
    exact h.2 α k' h'
theorem LC.r (r : Int) : LC (fun α => rf α r) := LC.u (f := fun α => α) LC.i (by decide) (jx := fun _ => -r) (x := fun α => α 87 (-r) + 1) (fun _ => rfl) (fun _ => rfl)
theorem LC.t {c : St → Prop} {d : ∀ α, Decidable (c α)} {f g : St → St} (hc : ∀ α, c α ↔ c (cut α)) (hf : LC f) (hg : LC g) : LC (fun α => @ite St (c α) (d α) (f α) (g α)) := by
  refine ⟨fun α => ?_, fun α k h => ?_⟩
  · show cut (@ite St (c α) (d α) (f α) (g α)) = cut (@ite St (c (cut α)) (d (cut α)) (f (cut α)) (g (cut α)))
    by_cases e : c α
    · rw [if_pos e, if_pos ((hc α).mp e)]
      exact hf.1 α
    · rw [if_neg e, if_neg (fun q => e ((hc α).mpr q))]
      exact hg.1 α
  · show (@ite St (c α) (d α) (f α) (g α)) k = α k
    by_cases e : c α
    · rw [if_pos e]; exact hf.2 α k h
    · rw [if_neg e]; exact hg.2 α k h
/-- a change told by cell and place -/
theorem LC.f {F : St → Nat → Int → Int} (h1 : ∀ α k j, 75 ≤ k → F α k j = F (cut α) k j) (h2 : ∀ α k j, k < 75 → F α k j = α k j) : LC (fun α => F α) := by
  refine ⟨fun α => ?_, fun α k h => ?_⟩
  · funext k j
    unfold cut
    by_cases e : 75 ≤ k
    · rw [if_pos e, if_pos e]
      exact h1 α k j e
    · rw [if_neg e, if_neg e]
  · funext j
    exact h2 α k j h
theorem net_c {α τ : St} (h0 : τ 75 0 = α 75 0) (h1 : τ 75 1 = α 75 1) (hk : ∀ k, 76 ≤ k → k ≤ 80 → τ k = α k) (h : NetOK α 75) : NetOK τ 75 := by
  unfold NetOK RowOK at h ⊢
  rw [h0, h1, hk (75 + 1) (by omega) (by omega), hk (75 + 2) (by omega) (by omega), hk (75 + 3) (by omega) (by omega), hk (75 + 4) (by omega) (by omega), hk (75 + 5) (by omega) (by omega)]
  exact h
abbrev ImP (α : St) : Prop := α 75 26 = 0 ∨ α 75 26 = 1 ∧ ImgOK α
abbrev LiP (α : St) : Prop := ∀ l : Int, 0 ≤ l → l < 3 → -1 ≤ α 85 l ∧ α 85 l ≤ 40 ∧ ∀ i : Int, 0 ≤ i → i < α 85 l → inR (α 86 (40 * l + i))
abbrev PaP (α : St) : Prop := ∀ i : Int, 0 ≤ i → i < 8 * α 75 7 → 0 ≤ α 81 i ∧ α 81 i ≤ 5 ∧ 0 ≤ α 82 i ∧ α 82 i ≤ 9 ∧ 0 ≤ α 83 i ∧ α 83 i ≤ 99
abbrev LeP (α : St) : Prop := ∀ i : Int, 0 ≤ i → i < α 75 12 → 0 ≤ α 84 i ∧ α 84 i ≤ 255
theorem img_c {α τ : St} (h : τ 95 = α 95) (h2 : τ 75 26 = α 75 26) (q : ImP α) : ImP τ := by
  unfold ImP ImgOK at *
  rw [h, h2]
  exact q
theorem lis_c {α τ : St} (h : τ 85 = α 85) (h2 : τ 86 = α 86) (q : LiP α) : LiP τ := by
  unfold LiP at *
  rw [h, h2]
  exact q
theorem pas_c {α τ : St} (h1 : τ 81 = α 81) (h2 : τ 82 = α 82) (h3 : τ 83 = α 83) (h7 : τ 75 7 = α 75 7) (q : PaP α) : PaP τ := by
  unfold PaP at *
  rw [h1, h2, h3, h7]
  exact q
theorem pas_0 {τ : St} (h7 : τ 75 7 = 0) : PaP τ := fun i a b => by rw [h7] at b; omega
theorem let_c {α τ : St} (h : τ 84 = α 84) (h2 : τ 75 12 = α 75 12) (q : LeP α) : LeP τ := by
  unfold LeP at *
  rw [h, h2]
  exact q
theorem OK.c {α τ : St} (h75 : ∀ j : Int, j = 0 ∨ j = 1 ∨ j = 7 ∨ j = 12 ∨ j = 26 → τ 75 j = α 75 j) (hk : ∀ k, 76 ≤ k ∧ k ≤ 86 ∨ k = 95 → τ k = α k) (h : OK α) : OK τ := by
  obtain ⟨a, b, c, d, e, f, g⟩ := h
  have h7 := h75 7 (by decide)
  have h12 := h75 12 (by decide)
  exact ⟨net_c (h75 0 (by decide)) (h75 1 (by decide)) (fun k _ _ => hk k (by omega)) a, by rw [h7]; exact b, by rw [h12]; exact c, let_c (hk 84 (by decide)) h12 d, img_c (hk 95 (by decide)) (h75 26 (by decide)) e, lis_c (hk 85 (by decide)) (hk 86 (by decide)) f, pas_c (hk 81 (by decide)) (hk 82 (by decide)) (hk 83 (by decide)) h7 g⟩
theorem OK.pp {a b : St} (h : pp a = pp b) (q : OK b) : OK a := OK.c (fun j hj => by rw [← pp_f (σ := a) hj, h, pp_f hj]) (fun k hk => by rw [← pp_c (σ := a) (k := k) (by omega), h, pp_c (by omega)]) q
theorem OK.ms {σ τ : St} (h : MS σ τ) (q : OK σ) : OK τ := OK.c (fun j _ => by rw [h 75 (by decide)]) (fun k hk => h k (by omega)) q
theorem OK.rf {α : St} (h : OK α) (r : Int) : OK (rf α r) := OK.c (fun j _ => up_o (by decide)) (fun k hk => up_ne (by omega)) h
theorem RX.cc {α α' σ τ : St} (h : pp α = pp α') (hk : ∀ k, k < 75 → τ k = σ k) (q : RX α σ) : RX α' τ := by
  have e : ∀ k, 76 ≤ k ∧ k ≤ 87 ∨ k = 95 → α k = α' k := fun k hk => by rw [← pp_c (σ := α) hk, h, pp_c hk]
  have e5 : ∀ j : Int, j = 0 ∨ j = 1 ∨ j = 7 ∨ j = 12 ∨ j = 26 → α 75 j = α' 75 j := fun j hj => by rw [← pp_f (σ := α) hj, h, pp_f hj]
  refine RX_c (σ := σ) (fun k hx => hk k (by unfold xP at hx; omega)) ?_
  unfold RX NetEq RXlet RXpast RXlist RXref RXimg at q ⊢
  rw [e5 0 (by decide), e5 1 (by decide), e5 7 (by decide), e5 12 (by decide), e5 26 (by decide), e (75 + 1) (by decide), e (75 + 2) (by decide), e (75 + 3) (by decide), e (75 + 4) (by decide), e (75 + 5) (by decide), e 81 (by decide), e 82 (by decide), e 83 (by decide), e 84 (by decide), e 85 (by decide), e 86 (by decide), e 87 (by decide), e 95 (by decide)] at q
  exact q
/-- rows -/
theorem row_ok {α : St} {k : Nat} {l v : Int} (h : OK α) (hk : (k = 76 ∧ 0 ≤ v ∧ v ≤ 5) ∨ (k = 77 ∧ 0 ≤ v ∧ v ≤ 9) ∨ (k = 80 ∧ 0 ≤ v ∧ v ≤ 99)) : OK (up α k l v) := by
  obtain ⟨⟨n1, n2, n3, n4, n5, n6⟩, b, c, d, e, f, g⟩ := h
  have h75 : ∀ j, up α k l v 75 j = α 75 j := fun j => up_o (by omega)
  have hne : ∀ k', k' ≠ 76 → k' ≠ 77 → k' ≠ 80 → up α k l v k' = α k' := fun k' a1 a2 a3 => up_ne (by omega)
  refine ⟨⟨by rw [h75]; exact n1, by rw [h75]; exact n2, by rw [h75]; exact n3, by rw [h75]; exact n4, fun j a1 a2 => ?_, fun j a1 a2 => ?_⟩, by rw [h75]; exact b, by rw [h75]; exact c, let_c (hne 84 (by decide) (by decide) (by decide)) (h75 12) d, img_c (hne 95 (by decide) (by decide) (by decide)) (h75 26) e, lis_c (hne 85 (by decide) (by decide) (by decide)) (hne 86 (by decide) (by decide) (by decide)) f, pas_c (hne 81 (by decide) (by decide) (by decide)) (hne 82 (by decide) (by decide) (by decide)) (hne 83 (by decide) (by decide) (by decide)) (h75 7) g⟩
  · have hn := n5 j a1 a2
    unfold up
    (repeat' split) <;> omega
  · rw [h75] at a2
    have hn := n6 j a1 a2
    rw [hne (75 + 3) (by decide) (by decide) (by decide), hne (75 + 4) (by decide) (by decide) (by decide), h75]
    exact hn
theorem can_v (α : St) (k : Nat) (j : Int) : canU α k j = if k = 75 ∧ j = 7 then (if α 75 7 = 8 then 7 else α 75 7) + 1
  else if k = 81 ∧ 8 * (if α 75 7 = 8 then 7 else α 75 7) ≤ j ∧ j < 8 * (if α 75 7 = 8 then 7 else α 75 7) + 8 then α 76 (j - 8 * (if α 75 7 = 8 then 7 else α 75 7))
  else if k = 82 ∧ 8 * (if α 75 7 = 8 then 7 else α 75 7) ≤ j ∧ j < 8 * (if α 75 7 = 8 then 7 else α 75 7) + 8 then α 77 (j - 8 * (if α 75 7 = 8 then 7 else α 75 7))
  else if k = 83 ∧ 8 * (if α 75 7 = 8 then 7 else α 75 7) ≤ j ∧ j < 8 * (if α 75 7 = 8 then 7 else α 75 7) + 8 then α 80 (j - 8 * (if α 75 7 = 8 then 7 else α 75 7))
  else if (k = 81 ∨ k = 82 ∨ k = 83) ∧ α 75 7 = 8 ∧ 0 ≤ j ∧ j < 56 then α k (j + 8)
  else α k j := rfl
theorem LC.can : LC canU := by
  refine LC.f (F := canU) (fun α k j h => ?_) (fun α k j h => ?_)
  · rw [can_v, can_v, cut_k (α := α) (k := 75) (by decide), cut_k (α := α) (k := 76) (by decide), cut_k (α := α) (k := 77) (by decide), cut_k (α := α) (k := 80) (by decide), cut_k (α := α) h]
  · rw [can_v, if_neg (by omega), if_neg (by omega), if_neg (by omega), if_neg (by omega), if_neg (by omega)]
theorem can_o {α : St} {k : Nat} (h : k ≠ 75) (h1 : k ≠ 81) (h2 : k ≠ 82) (h3 : k ≠ 83) : canU α k = α k := by
  funext j
  rw [can_v, if_neg (by omega), if_neg (by omega), if_neg (by omega), if_neg (by omega), if_neg (by omega)]
theorem can_f {α : St} {j : Int} (h : j ≠ 7) : canU α 75 j = α 75 j := by
  rw [can_v, if_neg (by omega), if_neg (by omega), if_neg (by omega), if_neg (by omega), if_neg (by omega)]
theorem can_ok {α : St} (h : OK α) : OK (canU α) := by
  obtain ⟨a, b, c, d, e, f, g⟩ := h
  have h7 : canU α 75 7 = (if α 75 7 = 8 then 7 else α 75 7) + 1 := by rw [can_v, if_pos ⟨rfl, rfl⟩]
  refine ⟨net_c (can_f (by decide)) (can_f (by decide)) (fun k _ _ => can_o (by omega) (by omega) (by omega) (by omega)) a, by rw [h7]; split <;> omega, by rw [can_f (by decide)]; exact c, let_c (can_o (by decide) (by decide) (by decide) (by decide)) (can_f (by decide)) d, img_c (can_o (by decide) (by decide) (by decide) (by decide)) (can_f (by decide)) e, lis_c (can_o (by decide) (by decide) (by decide) (by decide)) (can_o (by decide) (by decide) (by decide) (by decide)) f, fun i i0 i1 => ?_⟩
  rw [h7] at i1
  obtain ⟨u, hu, hu2⟩ : ∃ u : Int, (if α 75 7 = 8 then 7 else α 75 7) = u ∧ ((α 75 7 = 8 ∧ u = 7) ∨ (α 75 7 ≠ 8 ∧ u = α 75 7)) := ⟨_, rfl, by split <;> omega⟩
  rw [can_v, can_v, can_v, hu]
  rw [hu] at i1
  by_cases c1 : 8 * u ≤ i
  · have hn := a.2.2.2.2.1 (i - 8 * u) (by omega) (by omega)
    rw [if_neg (by omega), if_pos (by omega), if_neg (by omega), if_neg (by omega), if_pos (by omega), if_neg (by omega), if_neg (by omega), if_neg (by omega), if_pos (by omega)]
    exact ⟨hn.1, hn.2.1, hn.2.2.1, hn.2.2.2.1, hn.2.2.2.2.2.2.2.2.1, hn.2.2.2.2.2.2.2.2.2⟩
  · by_cases c2 : α 75 7 = 8
    · have hn := g (i + 8) (by omega) (by omega)
      rw [if_neg (by omega), if_neg (by omega), if_neg (by omega), if_neg (by omega), if_pos (by omega), if_neg (by omega), if_neg (by omega), if_neg (by omega), if_neg (by omega), if_pos (by omega), if_neg (by omega), if_neg (by omega), if_neg (by omega), if_neg (by omega), if_pos (by omega)]
      exact hn
    · rw [if_neg (by omega), if_neg (by omega), if_neg (by omega), if_neg (by omega), if_neg (by omega), if_neg (by omega), if_neg (by omega), if_neg (by omega), if_neg (by omega), if_neg (by omega), if_neg (by omega), if_neg (by omega), if_neg (by omega), if_neg (by omega), if_neg (by omega)]
      exact g i i0 (by omega)
