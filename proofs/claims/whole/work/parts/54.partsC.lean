section RS
variable {L : Int} {a b : Int → Int} {p : Int}
def CLS (a b : Int → Int) (x l : Int) : Prop := (bit x (a l) → bit x (b l + 7)) ∧ (bit x (b l) → bit x (a l + 7)) ∧ (bit x (a l + 7) → bit x (b l)) ∧ (bit x (b l + 7) → bit x (a l))
def SND (L : Int) (a b : Int → Int) (p y : Int) : Prop := ∀ i : Int, 0 ≤ i → i < 7 → (bit y i → evn L a b p i) ∧ (bit y (i + 7) → odd L a b p i)
def RS (L : Int) (a b : Int → Int) (p l x y : Int) : Prop := (0 ≤ y ∧ y < 16384) ∧ (∀ i : Int, 0 ≤ i → bit x i → bit y i) ∧ SND L a b p y ∧ (y = x → ∀ l' : Int, 0 ≤ l' → l' < l → CLS a b x l')
theorem rs_0 {x : Int} (hx : 0 ≤ x ∧ x < 16384) (hs : SND L a b p x) : RS L a b p 0 x x := ⟨hx, fun _ _ h => h, hs, fun _ l' h0 h1 => by omega⟩
def ACR (r y f t : Int) : Prop := (0 ≤ r ∧ r < 16384) ∧ ∀ i : Int, 0 ≤ i → (bit r i ↔ (i = t + 7 ∧ bit y f) ∨ (i = t ∧ bit y (f + 7)))
theorem ior_R2 {x y : Int} (hx : 0 ≤ x ∧ x < 16384) (hy : 0 ≤ y ∧ y < 16384) : 0 ≤ ior x y ∧ ior x y < 16384 := or_R 14 (by decide) hx hy
theorem rs_step {l x y r1 r2 : Int} (hab : ∀ l : Int, 0 ≤ l → l < L → (0 ≤ a l ∧ a l < 7) ∧ 0 ≤ b l ∧ b l < 7) (h : RS L a b p l x y) (h0 : 0 ≤ l) (h1 : l < L) (hx : 0 ≤ x ∧ x < 16384) (A1 : ACR r1 y (a l) (b l)) (A2 : ACR r2 (ior y r1) (b l) (a l)) : RS L a b p (l + 1) x (ior (ior y r1) r2) := by
  obtain ⟨hy, hsub, hs, hc⟩ := h
  obtain ⟨hr1, hb1⟩ := A1
  obtain ⟨hr2, hb2⟩ := A2
  have hl := hab l h0 h1
  have hy1 := ior_R2 hy hr1
  have hy2 := ior_R2 hy1 hr2
  have e1 : ∀ i : Int, bit (ior y r1) i ↔ bit y i ∨ bit r1 i := fun i => bit_or (by omega) (by omega)
  have e2 : ∀ i : Int, bit (ior (ior y r1) r2) i ↔ bit (ior y r1) i ∨ bit r2 i := fun i => bit_or (by omega) (by omega)
  have hs1 : SND L a b p (ior y r1) := fun i i0 i1 => by
    have hi := hs i i0 i1
    have hA := hs (a l) (by omega) (by omega)
    have hw := evn_1 (a := a) (b := b) (p := p) h0 h1
    rw [e1, e1, hb1 i i0, hb1 (i + 7) (by omega)]
    refine ⟨fun q => ?_, fun q => ?_⟩
    · rcases q with q | ⟨q, q2⟩ | ⟨q, q2⟩
      · exact hi.1 q
      · omega
      · rw [q]; exact hw.2.2.1 (hA.2 q2)
    · rcases q with q | ⟨q, q2⟩ | ⟨q, q2⟩
      · exact hi.2 q
      · rw [show i = b l by omega]; exact hw.1 (hA.1 q2)
      · omega
  refine ⟨hy2, fun i i0 q => (e2 i).mpr (Or.inl ((e1 i).mpr (Or.inl (hsub i i0 q)))), fun i i0 i1 => ?_, fun e => ?_⟩
  · have hi := hs1 i i0 i1
    have hB := hs1 (b l) (by omega) (by omega)
    have hw := evn_1 (a := a) (b := b) (p := p) h0 h1
    rw [e2, e2, hb2 i i0, hb2 (i + 7) (by omega)]
    refine ⟨fun q => ?_, fun q => ?_⟩
    · rcases q with q | ⟨q, q2⟩ | ⟨q, q2⟩
      · exact hi.1 q
      · omega
      · rw [q]; exact hw.2.2.2 (hB.2 q2)
    · rcases q with q | ⟨q, q2⟩ | ⟨q, q2⟩
      · exact hi.2 q
      · rw [show i = a l by omega]; exact hw.2.1 (hB.1 q2)
      · omega
  · have s1 : ∀ i : Int, 0 ≤ i → (bit (ior y r1) i → bit x i) := fun i i0 q => by rw [← e]; exact (e2 i).mpr (Or.inl q)
    have s2 : ∀ i : Int, 0 ≤ i → (bit r2 i → bit x i) := fun i i0 q => by rw [← e]; exact (e2 i).mpr (Or.inr q)
    have hyx : y = x := bit_ext hy.1 hx.1 fun i i0 => ⟨fun q => s1 i i0 ((e1 i).mpr (Or.inl q)), hsub i i0⟩
    intro l' l0 l1
    by_cases el : l' = l
    · rw [el]
      subst hyx
      have t1 : ∀ i : Int, 0 ≤ i → bit r1 i → bit y i := fun i i0 q => s1 i i0 ((e1 i).mpr (Or.inr q))
      refine ⟨fun q => t1 _ (by omega) ((hb1 _ (by omega)).mpr (Or.inl ⟨rfl, q⟩)), fun q => s2 _ (by omega) ((hb2 _ (by omega)).mpr (Or.inl ⟨rfl, (e1 _).mpr (Or.inl q)⟩)), fun q => t1 _ (by omega) ((hb1 _ (by omega)).mpr (Or.inr ⟨rfl, q⟩)), fun q => s2 _ (by omega) ((hb2 _ (by omega)).mpr (Or.inr ⟨rfl, (e1 _).mpr (Or.inl q)⟩))⟩
    · exact hc hyx l' l0 (by omega)
/-- what is reached: even ones, odd ones -/
def RR (L : Int) (a b : Int → Int) (p x : Int) : Prop := (0 ≤ x ∧ x < 16384) ∧ ∀ i : Int, 0 ≤ i → i < 7 → (bit x i ↔ evn L a b p i) ∧ (bit x (i + 7) ↔ odd L a b p i)
theorem rr_of {x : Int} (hp : bit x p) (h : RS L a b p L x x) : RR L a b p x := by
  obtain ⟨hy, -, hs, hc⟩ := h
  have hc2 := cl_2 hp (hc rfl)
  exact ⟨hy, fun i i0 i1 => ⟨⟨(hs i i0 i1).1, fun ⟨n, g⟩ => (hc2 n i).1 g⟩, (hs i i0 i1).2, fun ⟨n, g⟩ => (hc2 n i).2 g⟩⟩
theorem bl {P : Prop} {c : Int} (hc : 0 ≤ c ∧ c < 14) : (0 ≤ ishl (bP P) c ∧ ishl (bP P) c < 16384) ∧ ∀ i : Int, 0 ≤ i → (bit (ishl (bP P) c) i ↔ P ∧ i = c) := by
  by_cases h : P
  · rw [bP_t h]
    have h2 : 2 ^ c.toNat ≤ 2 ^ 13 := Nat.pow_le_pow_right (by decide) (by omega)
    have h3 := (ishl_v (a := c) (by omega)).1
    have h4 := Nat.two_pow_pos c.toNat
    refine ⟨by omega, fun i i0 => ?_⟩
    rw [bit_l (by omega) i0]
    exact ⟨fun q => ⟨h, q⟩, fun q => q.2⟩
  · rw [bP_f h, (ishl_v (a := c) (by omega)).2]
    exact ⟨by omega, fun i i0 => ⟨fun q => absurd q (bit_0 i), fun q => absurd q.1 h⟩⟩
theorem acr {y f t : Int} (hy : 0 ≤ y ∧ y < 16384) (hf : 0 ≤ f ∧ f < 7) (ht : 0 ≤ t ∧ t < 7) : ACR (ior (ishl (iand (ishr y f) 1) (t + 7)) (ishl (iand (ishr y (f + 7)) 1) t)) y f t := by
  rw [bit_1 (by omega) (by omega), bit_1 (by omega) (by omega)]
  have h1 := bl (P := bit y f) (c := t + 7) (by omega)
  have h2 := bl (P := bit y (f + 7)) (c := t) (by omega)
  refine ⟨ior_R2 h1.1 h2.1, fun i i0 => ?_⟩
  rw [bit_or (by omega) (by omega), h1.2 i i0, h2.2 i i0]
  exact ⟨fun q => q.elim (fun q => Or.inl ⟨q.2, q.1⟩) (fun q => Or.inr ⟨q.2, q.1⟩), fun q => q.elim (fun q => Or.inl ⟨q.2, q.1⟩) (fun q => Or.inr ⟨q.2, q.1⟩)⟩
/-- the part, of the reached ones -/
theorem part_e {x : Int} (h : RR L a b p x) : iand (ior x (ishr x 7)) 127 = setN (rch L a b p) 7 := by
  obtain ⟨hx, hb⟩ := h
  have hr := ishr_R (x := x) (a := 7) (by omega) (by omega)
  have ho := ior_R2 hx (y := ishr x 7) (by omega)
  have h7 := fun i (i0 : 0 ≤ i) => and_127 (x := ior x (ishr x 7)) (i := i) (by omega) i0
  refine set_e 7 ⟨(h7 0 (by decide)).2.1, (h7 0 (by decide)).2.2⟩ fun i i0 i1 => ?_
  rw [(h7 i i0).1, bit_or (by omega) (by omega), bit_r (by omega) (by omega) i0, rch_v, (hb i i0 (by omega)).1, (hb i i0 (by omega)).2]
  exact ⟨fun q => q.2, fun q => ⟨by omega, q⟩⟩
theorem part_b {i : Int} (i0 : 0 ≤ i) : bit (setN (rch L a b p) 7) i ↔ i < 7 ∧ rch L a b p i := (setN_v _ 7).2 i i0
theorem part_R : 0 ≤ setN (rch L a b p) 7 ∧ setN (rch L a b p) 7 < 128 := (setN_v (rch L a b p) 7).1
end RS
noncomputable def an_parts (α : St) (p : Int) : Int := if p ≠ -1 ∧ ¬ (0 ≤ p ∧ p < α 75 0) then -1 else if p = -1 then sumTo (fun q => bP (lst (α 75 1) (α 78) (α 79) q)) (α 75 0).toNat else setN (rch (α 75 1) (α 78) (α 79) p) 7
def nx_parts (α : St) (p : Int) : St := if p ≠ -1 ∧ ¬ (0 ≤ p ∧ p < α 75 0) then rf α (-1) else α
noncomputable def an_sides (α : St) (p : Int) : Int := if p ≠ -1 ∧ ¬ (0 ≤ p ∧ p < α 75 0) then -1 else if p = -1 then bP (nod (α 75 1) (α 78) (α 79) (α 75 0)) else if bP (nod (α 75 1) (α 78) (α 79) (α 75 0)) = 1 then bP (sid (α 75 1) (α 78) (α 79) p) else -9
def nx_sides (α : St) (p : Int) : St := if p ≠ -1 ∧ ¬ (0 ≤ p ∧ p < α 75 0) then rf α (-1) else α
theorem ends {σ : St} {b : Nat} (hN : NetOK σ b) : ∀ l : Int, 0 ≤ l → l < σ b 1 → (0 ≤ σ (b + 3) l ∧ σ (b + 3) l < 7) ∧ 0 ≤ σ (b + 4) l ∧ σ (b + 4) l < 7 := fun l h0 h1 => by
  obtain ⟨n1, n2, n3, n4, n5, n6⟩ := hN
  have h5 := n5 l h0 (by omega)
  have h6 := n6 l h0 h1
  omega
theorem endN {σ : St} {b : Nat} (hN : NetOK σ b) : ∀ l : Int, 0 ≤ l → l < σ b 1 → (0 ≤ σ (b + 3) l ∧ σ (b + 3) l < σ b 0) ∧ 0 ≤ σ (b + 4) l ∧ σ (b + 4) l < σ b 0 := fun l h0 h1 => by
  obtain ⟨n1, n2, n3, n4, n5, n6⟩ := hN
  have h5 := n5 l h0 (by omega)
  have h6 := n6 l h0 h1
  omega
theorem wk_n {α σ : St} (h : NetEq σ 1 α 75) (hL : σ 1 1 ≤ 8) (p : Int) : wk (σ 1 1) (σ 4) (σ 5) p = wk (α 75 1) (α 78) (α 79) p := by
  obtain ⟨e0, e1, er⟩ := h
  rw [e1]
  rw [e1] at hL
  funext n q
  have e : ∀ l : Int, 0 ≤ l → l < α 75 1 → σ 4 l = α 78 l ∧ σ 5 l = α 79 l := fun l h0 h1 => ⟨(er l h0 (by omega)).2.2.1, (er l h0 (by omega)).2.2.2.1⟩
  exact propext ⟨wk_c e, wk_c (fun l h0 h1 => ⟨(e l h0 h1).1.symm, (e l h0 h1).2.symm⟩)⟩
theorem rch_n {α σ : St} (h : NetEq σ 1 α 75) (hL : σ 1 1 ≤ 8) (p : Int) : rch (σ 1 1) (σ 4) (σ 5) p = rch (α 75 1) (α 78) (α 79) p := by
  funext q
  unfold rch
  rw [wk_n h hL]
theorem lst_n {α σ : St} (h : NetEq σ 1 α 75) (hL : σ 1 1 ≤ 8) (p : Int) : lst (σ 1 1) (σ 4) (σ 5) p = lst (α 75 1) (α 78) (α 79) p := by
  unfold lst
  rw [rch_n h hL]
theorem nod_n {α σ : St} (h : NetEq σ 1 α 75) (hL : σ 1 1 ≤ 8) : nod (σ 1 1) (σ 4) (σ 5) (σ 1 0) = nod (α 75 1) (α 78) (α 79) (α 75 0) := by
  unfold nod odd
  rw [h.1]
  simp only [wk_n h hL]
theorem sid_n {α σ : St} (h : NetEq σ 1 α 75) (hL : σ 1 1 ≤ 8) (p : Int) : sid (σ 1 1) (σ 4) (σ 5) p = sid (α 75 1) (α 78) (α 79) p := by
  unfold sid lsw odd
  simp only [wk_n h hL, rch_n h hL, lst_n h hL]
set_option maxHeartbeats 4000000 in
theorem c_X6_across {V : Wd} {σ : St} {x f t : Int} (hx : 0 ≤ x ∧ x < 16384) (hf : 0 ≤ f ∧ f < 7) (ht : 0 ≤ t ∧ t < 7) : Ct V yX6_across cX6_across 5 (some .int) 0 0 [iv x, iv f, iv t] σ (PI (fun r τ => ACR r x f t ∧ τ = σ)) := by
  refine ct_of (by decide) (Nat.le_of_ble_eq_true rfl) (fun X G T => ?_)
  have G : Gd X V cX6_across RX6 5 0 0 := G
  show AW X V σ 0 [] [some (iv x), some (iv f), some (iv t), none, none]
  refine aw_iload_n G dX6_across_0 rfl ?_
  refine aw_iload_n G dX6_across_1 rfl ?_
  refine aw_ishr G dX6_across_2 ?_
  refine aw_iconst G dX6_across_3 ?_
  refine aw_iand G dX6_across_4 ?_
  refine aw_iload_n G dX6_across_5 rfl ?_
  refine aw_bipush G dX6_across_6 (k := ?_)
  refine aw_iadd G dX6_across_8 ?_
  refine aw_ishl G dX6_across_9 ?_
  refine aw_istore_3 G dX6_across_10 (hc := by first | rfl | assumption) (k := ?_)
  refine aw_iload_n G dX6_across_11 rfl ?_
  refine aw_iload_n G dX6_across_12 rfl ?_
  refine aw_bipush G dX6_across_13 (k := ?_)
  refine aw_iadd G dX6_across_15 ?_
  refine aw_ishr G dX6_across_16 ?_
  refine aw_iconst G dX6_across_17 ?_
  refine aw_iand G dX6_across_18 ?_
  refine aw_iload_n G dX6_across_19 rfl ?_
  refine aw_ishl G dX6_across_20 ?_
  refine aw_istore_4 G dX6_across_21 (hc := by first | rfl | assumption) (k := ?_)
  refine aw_iload_n G dX6_across_23 rfl ?_
  refine aw_iload G dX6_across_24 rfl ?_
  refine aw_ior G dX6_across_26 ?_
  exact aw_iret G T dX6_across_27 (⟨acr hx hf ht, rfl⟩)

set_option maxHeartbeats 4000000 in
theorem c_X6_reached {V : Wd} {σ : St} {p : Int} (hN : NetOK σ 1) (hp : 0 ≤ p ∧ p < 7) : Ct V yX6_reached cX6_reached 6 (some .int) 1 24 [rv V 53, iv p] σ (PI (fun r τ => RR (σ 1 1) (σ 4) (σ 5) p r ∧ τ = σ)) := by
  refine ct_of (by decide) (Nat.le_of_ble_eq_true rfl) (fun X G T => ?_)
  have G : Gd X V cX6_reached RX6 6 1 24 := G
  show AW X V σ 0 [] [some (rv V 53), some (iv p), none, none, none, none]
  obtain ⟨n1, n2, n3, n4, n5, n6⟩ := id hN
  have hab := ends hN
  have loop : ∀ (n0 : Nat) (k : Int) (x : Int) (u4 : Option Value) (u5 : Option Value), (0 ≤ k ∧ k ≤ 14) → (14 < k + (n0 : Int)) → (0 ≤ x ∧ x < 16384) → (SND (σ 1 1) (σ 4) (σ 5) p x) → (bit x p) → (k + 1 ≤ pc x 14) → AW X V (σ) 6 [] [some (rv V 53), some (iv p), some (iv x), some (iv k), u4, u5] := by
    intro n0
    induction n0 with
    | zero =>
      intro k x u4 u5 h0 h1 hx hs hb hc
      exfalso
      omega
    | succ n0 ih =>
      intro k x u4 u5 h0 h1 hx hs hb hc
      refine aw_iload_n G dX6_reached_6 rfl ?_
      refine aw_bipush G dX6_reached_7 (k := ?_)
      refine aw_icmp_ge (tgt := 105) G dX6_reached_9 (by decide) (by first | omega | exact b01_R _ | exact bP_R _) (by first | omega | exact b01_R _ | exact bP_R _) (fun c9 => ?_) (fun c9 => ?_)
      · have := (pc_R x 14).2
        omega
      · refine aw_iload_n G dX6_reached_12 rfl ?_
        refine aw_istore_4 G dX6_reached_13 (hc := by first | rfl | assumption) (k := ?_)
        refine aw_iconst G dX6_reached_15 ?_
        refine aw_istore_5 G dX6_reached_16 (hc := by first | rfl | assumption) (k := ?_)
        have inner : ∀ (n1 : Nat) (l : Int) (y : Int), (0 ≤ l ∧ l ≤ σ 1 1) → (σ 1 1 < l + (n1 : Int)) → (RS (σ 1 1) (σ 4) (σ 5) p l x y) → AW X V (σ) 18 [] [some (rv V 53), some (iv p), some (iv y), some (iv k), some (iv x), some (iv l)] := by
          intro n1
          induction n1 with
          | zero =>
            intro l y g0 g1 gR
            exfalso
            omega
          | succ n1 ih1 =>
            intro l y g0 g1 gR
            have hy := gR.1
            refine aw_iload G dX6_reached_18 rfl ?_
            refine aw_aload_n G dX6_reached_20 rfl ?_
            refine gf_X6_16 G dX6_reached_21 (kk := ?_)
            refine gf_X6_26 G dX6_reached_24 (kk := ?_)
            refine aw_icmp_ge (tgt := 90) G dX6_reached_27 (by decide) (by first | omega | exact b01_R _ | exact bP_R _) (by first | omega | exact b01_R _ | exact bP_R _) (fun c27 => ?_) (fun c27 => ?_)
            · refine aw_iload_n G dX6_reached_90 rfl ?_
              refine aw_iload G dX6_reached_91 rfl ?_
              have el : l = σ 1 1 := by omega
              rw [el] at gR
              refine aw_icmp_ne (tgt := 99) G dX6_reached_93 (by decide) (by first | omega | exact b01_R _ | exact bP_R _) (by first | omega | exact b01_R _ | exact bP_R _) (fun c93 => ?_) (fun c93 => ?_)
              · refine aw_iinc_3 G dX6_reached_99 rfl (hc := by first | rfl | assumption) (k := ?_)
                refine aw_goto (tgt := 6) G dX6_reached_102 (by decide) ?_
                have hg := pc_gr 14 hx hy (gR.2.1) c93
                exact ih (k + 1) y _ _ (by omega) (by omega) hy gR.2.2.1 (gR.2.1 p hp.1 hb) (by omega)
              · refine aw_goto (tgt := 105) G dX6_reached_96 (by decide) ?_
                refine aw_iload_n G dX6_reached_105 rfl ?_
                exact aw_iret G T dX6_reached_106 (⟨by rw [c93] at gR ⊢; exact rr_of hb gR, rfl⟩)
            · refine aw_iload_n G dX6_reached_30 rfl ?_
              refine aw_iload_n G dX6_reached_31 rfl ?_
              refine aw_aload_n G dX6_reached_32 rfl ?_
              refine gf_X6_16 G dX6_reached_33 (kk := ?_)
              refine gf_X6_46 G dX6_reached_36 (kk := ?_)
              refine aw_iload G dX6_reached_39 rfl ?_
              refine aw_iaload G dX6_reached_41 (by first | decide | assumption | omega) (by first | rfl | assumption) (by first | decide | assumption) (by omega) ?_
              refine aw_aload_n G dX6_reached_42 rfl ?_
              refine gf_X6_16 G dX6_reached_43 (kk := ?_)
              refine gf_X6_50 G dX6_reached_46 (kk := ?_)
              refine aw_iload G dX6_reached_49 rfl ?_
              refine aw_iaload G dX6_reached_51 (by first | decide | assumption | omega) (by first | rfl | assumption) (by first | decide | assumption) (by omega) ?_
              have hl : (0 ≤ σ 4 l ∧ σ 4 l < 7) ∧ 0 ≤ σ 5 l ∧ σ 5 l < 7 := hab l g0.1 (by omega)
              refine cs_X6_53 G dX6_reached_52 (c_X6_across hy hl.1 hl.2) (kk := fun r52 t52 h52 => ?_)
              obtain ⟨A52, ee52⟩ := h52
              obtain rfl := ee52.symm
              have hy1 := ior_R2 hy A52.1
              refine aw_ior G dX6_reached_55 ?_
              refine aw_istore_2 G dX6_reached_56 (hc := by first | rfl | assumption) (k := ?_)
              refine aw_iload_n G dX6_reached_57 rfl ?_
              refine aw_iload_n G dX6_reached_58 rfl ?_
              refine aw_aload_n G dX6_reached_59 rfl ?_
              refine gf_X6_16 G dX6_reached_60 (kk := ?_)
              refine gf_X6_50 G dX6_reached_63 (kk := ?_)
              refine aw_iload G dX6_reached_66 rfl ?_
              refine aw_iaload G dX6_reached_68 (by first | decide | assumption | omega) (by first | rfl | assumption) (by first | decide | assumption) (by omega) ?_
              refine aw_aload_n G dX6_reached_69 rfl ?_
              refine gf_X6_16 G dX6_reached_70 (kk := ?_)
              refine gf_X6_46 G dX6_reached_73 (kk := ?_)
              refine aw_iload G dX6_reached_76 rfl ?_
              refine aw_iaload G dX6_reached_78 (by first | decide | assumption | omega) (by first | rfl | assumption) (by first | decide | assumption) (by omega) ?_
              refine cs_X6_53 G dX6_reached_79 (c_X6_across hy1 hl.2 hl.1) (kk := fun r79 t79 h79 => ?_)
              obtain ⟨A79, ee79⟩ := h79
              obtain rfl := ee79.symm
              refine aw_ior G dX6_reached_82 ?_
              refine aw_istore_2 G dX6_reached_83 (hc := by first | rfl | assumption) (k := ?_)
              refine aw_iinc_5 G dX6_reached_84 rfl (hc := by first | rfl | assumption) (k := ?_)
              refine aw_goto (tgt := 18) G dX6_reached_87 (by decide) ?_
              exact ih1 (l + 1) _ (by omega) (by omega) (rs_step hab gR g0.1 (by omega) hx A52 A79)
        exact inner ((σ 1 1).toNat + 1) 0 x (by omega) (by omega) (rs_0 hx hs)
  refine aw_iconst G dX6_reached_0 ?_
  refine aw_iload_n G dX6_reached_1 rfl ?_
  refine aw_ishl G dX6_reached_2 ?_
  refine aw_istore_2 G dX6_reached_3 (hc := by first | rfl | assumption) (k := ?_)
  refine aw_iconst G dX6_reached_4 ?_
  refine aw_istore_3 G dX6_reached_5 (hc := by first | rfl | assumption) (k := ?_)
  have hR := ishl_R (a := p) (by omega)
  have hR2 : ishl 1 p < 16384 := by
    rw [(ishl_v (a := p) (by omega)).1]
    have : 2 ^ p.toNat ≤ 2 ^ 13 := Nat.pow_le_pow_right (by decide) (by omega)
    omega
  have hb := fun i (i0 : 0 ≤ i) => bit_l (a := p) (i := i) (by omega) i0
  exact loop 15 0 (ishl 1 p) _ _ (by omega) (by omega) (by omega) (fun i i0 i1 => ⟨fun q => by rw [(hb i i0).mp q]; exact ⟨0, rfl⟩, fun q => by have := (hb (i + 7) (by omega)).mp q; omega⟩) ((hb p hp.1).mpr rfl) (pc_1 hp.1 ((hb p hp.1).mpr rfl) 14 (by omega))
set_option maxHeartbeats 4000000 in
theorem c_X6_partOf {V : Wd} {σ : St} {p : Int} (hN : NetOK σ 1) (hp : 0 ≤ p ∧ p < 7) : Ct V yX6_partOf cX6_partOf 3 (some .int) 2 49 [rv V 53, iv p] σ (PI (fun r τ => r = setN (rch (σ 1 1) (σ 4) (σ 5) p) 7 ∧ τ = σ)) := by
  refine ct_of (by decide) (Nat.le_of_ble_eq_true rfl) (fun X G T => ?_)
  have G : Gd X V cX6_partOf RX6 3 2 49 := G
  show AW X V σ 0 [] [some (rv V 53), some (iv p), none]
  refine aw_aload_n G dX6_partOf_0 rfl ?_
  refine aw_iload_n G dX6_partOf_1 rfl ?_
  refine cv_X6_57 G dX6_partOf_2 (c_X6_reached hN hp) (kk := fun r2 t2 h2 => ?_)
  obtain ⟨R2, ee2⟩ := h2
  obtain rfl := ee2.symm
  refine aw_istore_2 G dX6_partOf_5 (hc := by first | rfl | assumption) (k := ?_)
  refine aw_iload_n G dX6_partOf_6 rfl ?_
  refine aw_iload_n G dX6_partOf_7 rfl ?_
  refine aw_bipush G dX6_partOf_8 (k := ?_)
  refine aw_ishr G dX6_partOf_10 ?_
  refine aw_ior G dX6_partOf_11 ?_
  refine aw_bipush G dX6_partOf_12 (k := ?_)
  refine aw_iand G dX6_partOf_14 ?_
  exact aw_iret G T dX6_partOf_15 (⟨part_e R2, rfl⟩)

set_option maxHeartbeats 4000000 in
theorem c_X6_leastOf {V : Wd} {σ : St} {x : Int} (hx : 0 ≤ x ∧ x < 128) : Ct V yX6_leastOf cX6_leastOf 2 (some .int) 0 0 [iv x] σ (PI (fun r τ => (0 ≤ r ∧ r ≤ 7 ∧ (∀ i : Int, 0 ≤ i → i < r → ¬ bit x i) ∧ (r < 7 → bit x r)) ∧ τ = σ)) := by
  refine ct_of (by decide) (Nat.le_of_ble_eq_true rfl) (fun X G T => ?_)
  have G : Gd X V cX6_leastOf RX6 2 0 0 := G
  show AW X V σ 0 [] [some (iv x), none]
  have loop : ∀ (n0 : Nat) (i : Int), (0 ≤ i ∧ i ≤ 7) → (7 < i + (n0 : Int)) → (∀ j : Int, 0 ≤ j → j < i → ¬ bit x j) → AW X V (σ) 2 [] [some (iv x), some (iv i)] := by
    intro n0
    induction n0 with
    | zero =>
      intro i h0 h1 hz
      exfalso
      omega
    | succ n0 ih =>
      intro i h0 h1 hz
      refine aw_iload_n G dX6_leastOf_2 rfl ?_
      refine aw_bipush G dX6_leastOf_3 (k := ?_)
      refine aw_icmp_ge (tgt := 22) G dX6_leastOf_5 (by decide) (by first | omega | exact b01_R _ | exact bP_R _) (by first | omega | exact b01_R _ | exact bP_R _) (fun c5 => ?_) (fun c5 => ?_)
      · refine aw_iload_n G dX6_leastOf_22 rfl ?_
        exact aw_iret G T dX6_leastOf_23 (by
        refine ⟨⟨h0.1, h0.2, hz, fun q => ?_⟩, rfl⟩
        first
          | omega
          | assumption)
      · refine aw_iload_n G dX6_leastOf_8 rfl ?_
        refine aw_iload_n G dX6_leastOf_9 rfl ?_
        refine aw_ishr G dX6_leastOf_10 ?_
        refine aw_iconst G dX6_leastOf_11 ?_
        refine aw_iand G dX6_leastOf_12 ?_
        rw [bit_1 (x := x) (a := i) (by omega) (by omega)]
        refine aw_if_ne (tgt := 22) G dX6_leastOf_13 (by decide) (bP_R _) (fun c13 => ?_) (fun c13 => ?_)
        · try simp only [b01_0, b01_n, bP_0, bP_n, Classical.not_not] at c13
          refine aw_iload_n G dX6_leastOf_22 rfl ?_
          exact aw_iret G T dX6_leastOf_23 (by
        refine ⟨⟨h0.1, h0.2, hz, fun q => ?_⟩, rfl⟩
        first
          | omega
          | assumption)
        · try simp only [b01_0, b01_n, bP_0, bP_n, Classical.not_not] at c13
          refine aw_iinc_1 G dX6_leastOf_16 rfl (hc := by first | rfl | assumption) (k := ?_)
          refine aw_goto (tgt := 2) G dX6_leastOf_19 (by decide) ?_
          refine ih (i + 1) (by omega) (by omega) (fun j j0 j1 => ?_)
          by_cases e : j = i
          · rw [e]; exact c13
          · exact hz j j0 (by omega)
  refine aw_iconst G dX6_leastOf_0 ?_
  refine aw_istore_1 G dX6_leastOf_1 (hc := by first | rfl | assumption) (k := ?_)
  exact loop 8 0 (by omega) (by omega) (fun j a b => by omega)
theorem least_e {L N p r : Int} {a b : Int → Int} (hp : 0 ≤ p ∧ p < 7) (h : 0 ≤ r ∧ r ≤ 7 ∧ (∀ i : Int, 0 ≤ i → i < r → ¬ bit (setN (rch L a b p) 7) i) ∧ (r < 7 → bit (setN (rch L a b p) 7) r)) : lsw L a b p r ∧ r < 7 ∧ (r = p ↔ lst L a b p) := by
  obtain ⟨h0, h1, h2, h3⟩ := h
  have hn : ∀ i : Int, 0 ≤ i → i < r → ¬ rch L a b p i := fun i i0 i1 q => h2 i i0 i1 ((part_b i0).mpr ⟨by omega, q⟩)
  have hr : r < 7 := by
    by_cases e : r < 7
    · exact e
    · exact absurd (rch_0 p) (hn p hp.1 (by omega))
  have hq := (part_b h0).mp (h3 hr)
  refine ⟨⟨h0, hq.2, fun i i0 i1 z => hn i i0 i1 (rch_t hq.2 z)⟩, hr, fun e => by rw [← e]; exact fun i i0 i1 z => hn i i0 i1 (rch_t hq.2 z), fun z => ?_⟩
  by_cases c : r < p
  · exact absurd hq.2 (z r h0 c)
  · by_cases c2 : p < r
    · exact absurd (rch_0 p) (hn p hp.1 c2)
    · omega
set_option maxHeartbeats 4000000 in
theorem c_X6_partCount {V : Wd} {σ : St}  (hN : NetOK σ 1) : Ct V yX6_partCount cX6_partCount 3 (some .int) 3 71 [rv V 53] σ (PI (fun r τ => r = sumTo (fun q => bP (lst (σ 1 1) (σ 4) (σ 5) q)) (σ 1 0).toNat ∧ τ = σ)) := by
  refine ct_of (by decide) (Nat.le_of_ble_eq_true rfl) (fun X G T => ?_)
  have G : Gd X V cX6_partCount RX6 3 3 71 := G
  show AW X V σ 0 [] [some (rv V 53), none, none]
  obtain ⟨n1, n2, n3, n4, n5, n6⟩ := id hN
  have loop : ∀ (n0 : Nat) (i : Int), (0 ≤ i ∧ i ≤ σ 1 0) → (σ 1 0 < i + (n0 : Int)) → AW X V (σ) 4 [] [some (rv V 53), some (iv (sumTo (fun q => bP (lst (σ 1 1) (σ 4) (σ 5) q)) i.toNat)), some (iv i)] := by
    intro n0
    induction n0 with
    | zero =>
      intro i h0 h1
      exfalso
      omega
    | succ n0 ih =>
      intro i h0 h1
      refine aw_iload_n G dX6_partCount_4 rfl ?_
      refine aw_aload_n G dX6_partCount_5 rfl ?_
      refine gf_X6_16 G dX6_partCount_6 (kk := ?_)
      refine gf_X6_20 G dX6_partCount_9 (kk := ?_)
      refine aw_icmp_ge (tgt := 36) G dX6_partCount_12 (by decide) (by first | omega | exact b01_R _ | exact bP_R _) (by first | omega | exact b01_R _ | exact bP_R _) (fun c12 => ?_) (fun c12 => ?_)
      · refine aw_iload_n G dX6_partCount_36 rfl ?_
        exact aw_iret G T dX6_partCount_37 (⟨by rw [show i = σ 1 0 by omega], rfl⟩)
      · refine aw_aload_n G dX6_partCount_15 rfl ?_
        refine aw_iload_n G dX6_partCount_16 rfl ?_
        refine cv_X6_61 G dX6_partCount_17 (c_X6_partOf hN (by omega)) (kk := fun r17 t17 h17 => ?_)
        obtain ⟨rfl, ee17⟩ := h17
        obtain rfl := ee17.symm
        refine cs_X6_64 G dX6_partCount_20 (c_X6_leastOf part_R) (kk := fun r20 t20 h20 => ?_)
        obtain ⟨L20, ee20⟩ := h20
        obtain rfl := ee20.symm
        refine aw_iload_n G dX6_partCount_23 rfl ?_
        have hle := least_e (N := 7) (p := i) (by omega) L20
        refine aw_icmp_ne (tgt := 30) G dX6_partCount_24 (by decide) (by first | omega | exact b01_R _ | exact bP_R _) (by first | omega | exact b01_R _ | exact bP_R _) (fun c24 => ?_) (fun c24 => ?_)
        · refine aw_iinc_2 G dX6_partCount_30 rfl (hc := by first | rfl | assumption) (k := ?_)
          refine aw_goto (tgt := 4) G dX6_partCount_33 (by decide) ?_
          have hz := ih (i + 1) (by omega) (by omega)
          have e1 : sumTo (fun q => bP (lst (σ 1 1) (σ 4) (σ 5) q)) (i + 1).toNat = sumTo (fun q => bP (lst (σ 1 1) (σ 4) (σ 5) q)) i.toNat + bP (lst (σ 1 1) (σ 4) (σ 5) i) := by
            rw [show (i + 1).toNat = i.toNat + 1 by omega]
            show sumTo _ _ + bP (lst (σ 1 1) (σ 4) (σ 5) ((i.toNat : Nat) : Int)) = _
            rw [show ((i.toNat : Nat) : Int) = i by omega]
          first
            | (rw [e1, bP_t (hle.2.2.mp c24)] at hz
               exact hz)
            | (rw [e1, bP_f (fun z => c24 (hle.2.2.mpr z)), Int.add_zero] at hz
               exact hz)
        · refine aw_iinc_1 G dX6_partCount_27 rfl (hc := by first | rfl | assumption) (k := ?_)
          refine aw_iinc_2 G dX6_partCount_30 rfl (hc := by first | rfl | assumption) (k := ?_)
          refine aw_goto (tgt := 4) G dX6_partCount_33 (by decide) ?_
          have hz := ih (i + 1) (by omega) (by omega)
          have e1 : sumTo (fun q => bP (lst (σ 1 1) (σ 4) (σ 5) q)) (i + 1).toNat = sumTo (fun q => bP (lst (σ 1 1) (σ 4) (σ 5) q)) i.toNat + bP (lst (σ 1 1) (σ 4) (σ 5) i) := by
            rw [show (i + 1).toNat = i.toNat + 1 by omega]
            show sumTo _ _ + bP (lst (σ 1 1) (σ 4) (σ 5) ((i.toNat : Nat) : Int)) = _
            rw [show ((i.toNat : Nat) : Int) = i by omega]
          first
            | (rw [e1, bP_t (hle.2.2.mp c24)] at hz
               exact hz)
            | (rw [e1, bP_f (fun z => c24 (hle.2.2.mpr z)), Int.add_zero] at hz
               exact hz)
  refine aw_iconst G dX6_partCount_0 ?_
  refine aw_istore_1 G dX6_partCount_1 (hc := by first | rfl | assumption) (k := ?_)
  refine aw_iconst G dX6_partCount_2 ?_
  refine aw_istore_2 G dX6_partCount_3 (hc := by first | rfl | assumption) (k := ?_)
  exact loop ((σ 1 0).toNat + 1) 0 (by omega) (by omega)
set_option maxHeartbeats 4000000 in
theorem c_X6_isOddFrom {V : Wd} {σ : St} {f q : Int} (hN : NetOK σ 1) (hf : 0 ≤ f ∧ f < 7) (hq : 0 ≤ q ∧ q < 7) : Ct V yX6_isOddFrom cX6_isOddFrom 3 (some .boolean) 2 49 [rv V 53, iv f, iv q] σ (PI (fun r τ => r = bP (odd (σ 1 1) (σ 4) (σ 5) f q) ∧ τ = σ)) := by
  refine ct_of (by decide) (Nat.le_of_ble_eq_true rfl) (fun X G T => ?_)
  have G : Gd X V cX6_isOddFrom RX6 3 2 49 := G
  show AW X V σ 0 [] [some (rv V 53), some (iv f), some (iv q)]
  refine aw_aload_n G dX6_isOddFrom_0 rfl ?_
  refine aw_iload_n G dX6_isOddFrom_1 rfl ?_
  refine cv_X6_57 G dX6_isOddFrom_2 (c_X6_reached hN hf) (kk := fun r2 t2 h2 => ?_)
  obtain ⟨R2, ee2⟩ := h2
  obtain rfl := ee2.symm
  refine aw_iload_n G dX6_isOddFrom_5 rfl ?_
  refine aw_bipush G dX6_isOddFrom_6 (k := ?_)
  refine aw_iadd G dX6_isOddFrom_8 ?_
  refine aw_ishr G dX6_isOddFrom_9 ?_
  refine aw_iconst G dX6_isOddFrom_10 ?_
  refine aw_iand G dX6_isOddFrom_11 ?_
  rw [bit_1 (x := r2) (a := q + 7) (by have := R2.1; omega) (by omega)]
  have hb := (R2.2 q hq.1 hq.2).2
  refine aw_if_eq (tgt := 19) G dX6_isOddFrom_12 (by decide) (bP_R _) (fun c12 => ?_) (fun c12 => ?_)
  · try simp only [b01_0, b01_n, bP_0, bP_n, Classical.not_not] at c12
    refine aw_iconst G dX6_isOddFrom_19 ?_
    exact aw_zret G T dX6_isOddFrom_20 (by first | exact Or.inl rfl | exact Or.inr rfl | assumption) (by
    refine ⟨?_, rfl⟩
    first
      | exact (bP_t (hb.mp c12)).symm
      | exact (bP_f (fun z => c12 (hb.mpr z))).symm)
  · try simp only [b01_0, b01_n, bP_0, bP_n, Classical.not_not] at c12
    refine aw_iconst G dX6_isOddFrom_15 ?_
    refine aw_goto (tgt := 20) G dX6_isOddFrom_16 (by decide) ?_
    exact aw_zret G T dX6_isOddFrom_20 (by first | exact Or.inl rfl | exact Or.inr rfl | assumption) (by
    refine ⟨?_, rfl⟩
    first
      | exact (bP_t (hb.mp c12)).symm
      | exact (bP_f (fun z => c12 (hb.mpr z))).symm)

set_option maxHeartbeats 4000000 in
theorem c_X6_hasSides {V : Wd} {σ : St}  (hN : NetOK σ 1) : Ct V yX6_hasSides cX6_hasSides 2 (some .boolean) 3 71 [rv V 53] σ (PI (fun r τ => r = bP (nod (σ 1 1) (σ 4) (σ 5) (σ 1 0)) ∧ τ = σ)) := by
  refine ct_of (by decide) (Nat.le_of_ble_eq_true rfl) (fun X G T => ?_)
  have G : Gd X V cX6_hasSides RX6 2 3 71 := G
  show AW X V σ 0 [] [some (rv V 53), none]
  obtain ⟨n1, n2, n3, n4, n5, n6⟩ := id hN
  have loop : ∀ (n0 : Nat) (i : Int), (0 ≤ i ∧ i ≤ σ 1 0) → (σ 1 0 < i + (n0 : Int)) → (∀ p : Int, 0 ≤ p → p < i → ¬ odd (σ 1 1) (σ 4) (σ 5) p p) → AW X V (σ) 2 [] [some (rv V 53), some (iv i)] := by
    intro n0
    induction n0 with
    | zero =>
      intro i h0 h1 hz
      exfalso
      omega
    | succ n0 ih =>
      intro i h0 h1 hz
      refine aw_iload_n G dX6_hasSides_2 rfl ?_
      refine aw_aload_n G dX6_hasSides_3 rfl ?_
      refine gf_X6_16 G dX6_hasSides_4 (kk := ?_)
      refine gf_X6_20 G dX6_hasSides_7 (kk := ?_)
      refine aw_icmp_ge (tgt := 30) G dX6_hasSides_10 (by decide) (by first | omega | exact b01_R _ | exact bP_R _) (by first | omega | exact b01_R _ | exact bP_R _) (fun c10 => ?_) (fun c10 => ?_)
      · refine aw_iconst G dX6_hasSides_30 ?_
        exact aw_zret G T dX6_hasSides_31 (Or.inr rfl) (⟨(bP_t (fun p p0 p1 => hz p p0 (by omega))).symm, rfl⟩)
      · refine aw_aload_n G dX6_hasSides_13 rfl ?_
        refine aw_iload_n G dX6_hasSides_14 rfl ?_
        refine aw_iload_n G dX6_hasSides_15 rfl ?_
        refine cv_X6_67 G dX6_hasSides_16 (c_X6_isOddFrom hN (by omega) (by omega)) (kk := fun r16 t16 h16 => ?_)
        obtain ⟨rfl, ee16⟩ := h16
        obtain rfl := ee16.symm
        refine aw_if_eq (tgt := 24) G dX6_hasSides_19 (by decide) (bP_R _) (fun c19 => ?_) (fun c19 => ?_)
        · try simp only [b01_0, b01_n, bP_0, bP_n, Classical.not_not] at c19
          refine aw_iinc_1 G dX6_hasSides_24 rfl (hc := by first | rfl | assumption) (k := ?_)
          refine aw_goto (tgt := 2) G dX6_hasSides_27 (by decide) ?_
          refine ih (i + 1) (by omega) (by omega) (fun j j0 j1 => ?_)
          by_cases e : j = i
          · rw [e]; exact c19
          · exact hz j j0 (by omega)
        · try simp only [b01_0, b01_n, bP_0, bP_n, Classical.not_not] at c19
          refine aw_iconst G dX6_hasSides_22 ?_
          exact aw_zret G T dX6_hasSides_23 (Or.inl rfl) (⟨(bP_f (fun z => z i h0.1 (by omega) c19)).symm, rfl⟩)
  refine aw_iconst G dX6_hasSides_0 ?_
  refine aw_istore_1 G dX6_hasSides_1 (hc := by first | rfl | assumption) (k := ?_)
  exact loop ((σ 1 0).toNat + 1) 0 (by omega) (by omega) (fun p a b => by omega)
set_option maxHeartbeats 4000000 in
theorem c_X6_sideOf {V : Wd} {σ : St} {p : Int} (hN : NetOK σ 1) (hp : 0 ≤ p ∧ p < 7) : Ct V yX6_sideOf cX6_sideOf 2 (some .int) 3 71 [rv V 53, iv p] σ (PI (fun r τ => r = bP (sid (σ 1 1) (σ 4) (σ 5) p) ∧ τ = σ)) := by
  refine ct_of (by decide) (Nat.le_of_ble_eq_true rfl) (fun X G T => ?_)
  have G : Gd X V cX6_sideOf RX6 2 3 71 := G
  show AW X V σ 0 [] [some (rv V 53), some (iv p)]
  refine aw_aload_n G dX6_sideOf_0 rfl ?_
  refine aw_aload_n G dX6_sideOf_1 rfl ?_
  refine aw_iload_n G dX6_sideOf_2 rfl ?_
  refine cv_X6_61 G dX6_sideOf_3 (c_X6_partOf hN (by omega)) (kk := fun r3 t3 h3 => ?_)
  obtain ⟨rfl, ee3⟩ := h3
  obtain rfl := ee3.symm
  refine cs_X6_64 G dX6_sideOf_6 (c_X6_leastOf part_R) (kk := fun r6 t6 h6 => ?_)
  obtain ⟨L6, ee6⟩ := h6
  obtain rfl := ee6.symm
  refine aw_iload_n G dX6_sideOf_9 rfl ?_
  have hle := least_e (N := 7) (p := p) hp L6
  refine cv_X6_67 G dX6_sideOf_10 (c_X6_isOddFrom hN (by have := L6.1; omega) hp) (kk := fun r10 t10 h10 => ?_)
  obtain ⟨rfl, ee10⟩ := h10
  obtain rfl := ee10.symm
  refine aw_if_eq (tgt := 20) G dX6_sideOf_13 (by decide) (bP_R _) (fun c13 => ?_) (fun c13 => ?_)
  · try simp only [b01_0, b01_n, bP_0, bP_n, Classical.not_not] at c13
    refine aw_iconst G dX6_sideOf_20 ?_
    exact aw_iret G T dX6_sideOf_21 (by
    refine ⟨?_, rfl⟩
    first
      | exact (bP_t ⟨_, hle.1, c13⟩).symm
      | exact (bP_f (fun z => by
          obtain ⟨r, z1, z2⟩ := z
          rw [lsw_u z1 hle.1] at z2
          exact c13 z2)).symm)
  · try simp only [b01_0, b01_n, bP_0, bP_n, Classical.not_not] at c13
    refine aw_iconst G dX6_sideOf_16 ?_
    refine aw_goto (tgt := 21) G dX6_sideOf_17 (by decide) ?_
    exact aw_iret G T dX6_sideOf_21 (by
    refine ⟨?_, rfl⟩
    first
      | exact (bP_t ⟨_, hle.1, c13⟩).symm
      | exact (bP_f (fun z => by
          obtain ⟨r, z1, z2⟩ := z
          rw [lsw_u z1 hle.1] at z2
          exact c13 z2)).symm)

set_option maxHeartbeats 4000000 in
theorem c_X9_parts {V : Wd} {σ : St} {α : St} {p : Int} (h1 : inR p) (hk : OK α) (hX : RX α σ) : Ct V yX9_parts cX9_parts 2 (some .int) 4 93 [rv V 0, iv p] σ (PI (fun r τ => r = an_parts α p ∧ RX (nx_parts α p) τ ∧ MS σ τ)) := by
  refine ct_of (by decide) (Nat.le_of_ble_eq_true rfl) (fun X G T => ?_)
  have G : Gd X V cX9_parts RX9 2 4 93 := G
  show AW X V σ 0 [] [some (rv V 0), some (iv p)]
  have hN : NetOK σ 1 := hX.1.ok hk.1
  obtain ⟨⟨e0, e1, er⟩, ⟨x1, x2⟩, xp, xl, xr, xi⟩ := id hX
  obtain ⟨⟨n1, n2, n3, n4, n5, n6⟩, u1, l1, l2, i1, s1, w1⟩ := id hk
  obtain ⟨p1, p2, p3, p4, p5, p6⟩ := id hN
  have hne : NetEq σ 1 α 75 := ⟨e0, e1, er⟩
  refine aw_iload_n G dX9_parts_0 rfl ?_
  refine aw_iconst G dX9_parts_1 ?_
  refine aw_icmp_ne (tgt := 13) G dX9_parts_2 (by decide) (by first | omega | exact b01_R _ | exact bP_R _) (by first | omega | exact b01_R _ | exact bP_R _) (fun c2 => ?_) (fun c2 => ?_)
  · refine aw_aload_n G dX9_parts_13 rfl ?_
    refine gf_X9_10 G dX9_parts_14 (kk := ?_)
    refine aw_iload_n G dX9_parts_17 rfl ?_
    refine cv_X9_106 G dX9_parts_18 (c_X3_hasPoint (by first | exact isNet_1 | exact isNet_13) (by first | assumption | omega) (by omega)) (kk := fun r18 t18 h18 => ?_)
    obtain ⟨rfl, ee18⟩ := h18
    obtain rfl := ee18.symm
    refine aw_if_ne (tgt := 30) G dX9_parts_21 (by decide) (by first | omega | exact b01_R _ | exact bP_R _) (fun c21 => ?_) (fun c21 => ?_)
    · try simp only [b01_0, b01_n, bP_0, bP_n, Classical.not_not] at c21
      refine aw_aload_n G dX9_parts_30 rfl ?_
      refine gf_X9_42 G dX9_parts_31 (kk := ?_)
      refine aw_iload_n G dX9_parts_34 rfl ?_
      refine cv_X9_221 G dX9_parts_35 (c_X6_partOf hN (by omega)) (kk := fun r35 t35 h35 => ?_)
      obtain ⟨rfl, ee35⟩ := h35
      obtain rfl := ee35.symm
      exact aw_iret G T dX9_parts_38 (by
    refine ⟨?_, by unfold nx_parts; rw [if_neg (by omega)]; exact hX, MS.rf _⟩
    unfold an_parts
    rw [if_neg (by omega), if_neg (by omega), rch_n hne p4])
    · try simp only [b01_0, b01_n, bP_0, bP_n, Classical.not_not] at c21
      refine aw_aload_n G dX9_parts_24 rfl ?_
      refine aw_iconst G dX9_parts_25 ?_
      refine cv_X9_77 G dX9_parts_26 (c_X9_refused (by decide)) (kk := fun r26 t26 h26 => ?_)
      obtain ⟨rfl, ee26⟩ := h26
      obtain rfl := ee26.symm
      exact aw_iret G T dX9_parts_29 (⟨by unfold an_parts; rw [if_pos (by omega)], by unfold nx_parts; rw [if_pos (by omega)]; exact RX_ref hX (by decide), (MS.rf _).up (by decide)⟩)
  · refine aw_aload_n G dX9_parts_5 rfl ?_
    refine gf_X9_42 G dX9_parts_6 (kk := ?_)
    refine cv_X9_218 G dX9_parts_9 (c_X6_partCount hN) (kk := fun r9 t9 h9 => ?_)
    obtain ⟨rfl, ee9⟩ := h9
    obtain rfl := ee9.symm
    exact aw_iret G T dX9_parts_12 (by
    refine ⟨?_, by unfold nx_parts; rw [if_neg (by omega)]; exact hX, MS.rf _⟩
    unfold an_parts
    rw [if_neg (by omega), if_pos (by omega), e0]
    simp only [lst_n hne p4])
set_option maxHeartbeats 4000000 in
theorem c_X9_sides {V : Wd} {σ : St} {α : St} {p : Int} (h1 : inR p) (hk : OK α) (hX : RX α σ) : Ct V yX9_sides cX9_sides 2 (some .int) 4 92 [rv V 0, iv p] σ (PI (fun r τ => r = an_sides α p ∧ RX (nx_sides α p) τ ∧ MS σ τ)) := by
  refine ct_of (by decide) (Nat.le_of_ble_eq_true rfl) (fun X G T => ?_)
  have G : Gd X V cX9_sides RX9 2 4 92 := G
  show AW X V σ 0 [] [some (rv V 0), some (iv p)]
  have hN : NetOK σ 1 := hX.1.ok hk.1
  obtain ⟨⟨e0, e1, er⟩, ⟨x1, x2⟩, xp, xl, xr, xi⟩ := id hX
  obtain ⟨⟨n1, n2, n3, n4, n5, n6⟩, u1, l1, l2, i1, s1, w1⟩ := id hk
  obtain ⟨p1, p2, p3, p4, p5, p6⟩ := id hN
  have hne : NetEq σ 1 α 75 := ⟨e0, e1, er⟩
  have hnod := nod_n hne p4
  refine aw_iload_n G dX9_sides_0 rfl ?_
  refine aw_iconst G dX9_sides_1 ?_
  refine aw_icmp_ne (tgt := 21) G dX9_sides_2 (by decide) (by first | omega | exact b01_R _ | exact bP_R _) (by first | omega | exact b01_R _ | exact bP_R _) (fun c2 => ?_) (fun c2 => ?_)
  · refine aw_aload_n G dX9_sides_21 rfl ?_
    refine gf_X9_10 G dX9_sides_22 (kk := ?_)
    refine aw_iload_n G dX9_sides_25 rfl ?_
    refine cv_X9_106 G dX9_sides_26 (c_X3_hasPoint (by first | exact isNet_1 | exact isNet_13) (by first | assumption | omega) (by omega)) (kk := fun r26 t26 h26 => ?_)
    obtain ⟨rfl, ee26⟩ := h26
    obtain rfl := ee26.symm
    refine aw_if_ne (tgt := 38) G dX9_sides_29 (by decide) (by first | omega | exact b01_R _ | exact bP_R _) (fun c29 => ?_) (fun c29 => ?_)
    · try simp only [b01_0, b01_n, bP_0, bP_n, Classical.not_not] at c29
      refine aw_aload_n G dX9_sides_38 rfl ?_
      refine gf_X9_42 G dX9_sides_39 (kk := ?_)
      refine cv_X9_224 G dX9_sides_42 (c_X6_hasSides hN) (kk := fun r42 t42 h42 => ?_)
      obtain ⟨rfl, ee42⟩ := h42
      obtain rfl := ee42.symm
      refine aw_if_eq (tgt := 59) G dX9_sides_45 (by decide) (bP_R _) (fun c45 => ?_) (fun c45 => ?_)
      · try simp only [b01_0, b01_n, bP_0, bP_n, Classical.not_not] at c45
        refine aw_bipush G dX9_sides_59 (k := ?_)
        exact aw_iret G T dX9_sides_61 (by
    refine ⟨?_, by unfold nx_sides; rw [if_neg (by omega)]; exact hX, MS.rf _⟩
    unfold an_sides
    rw [if_neg (by omega), ← hnod]
    first
      | (rw [if_neg (by omega), if_pos (bP_t c45), sid_n hne p4])
      | (rw [if_neg (by omega), if_neg (by rw [bP_f c45]; decide)]))
      · try simp only [b01_0, b01_n, bP_0, bP_n, Classical.not_not] at c45
        refine aw_aload_n G dX9_sides_48 rfl ?_
        refine gf_X9_42 G dX9_sides_49 (kk := ?_)
        refine aw_iload_n G dX9_sides_52 rfl ?_
        refine cv_X9_228 G dX9_sides_53 (c_X6_sideOf hN (by omega)) (kk := fun r53 t53 h53 => ?_)
        obtain ⟨rfl, ee53⟩ := h53
        obtain rfl := ee53.symm
        refine aw_goto (tgt := 61) G dX9_sides_56 (by decide) ?_
        exact aw_iret G T dX9_sides_61 (by
    refine ⟨?_, by unfold nx_sides; rw [if_neg (by omega)]; exact hX, MS.rf _⟩
    unfold an_sides
    rw [if_neg (by omega), ← hnod]
    first
      | (rw [if_neg (by omega), if_pos (bP_t c45), sid_n hne p4])
      | (rw [if_neg (by omega), if_neg (by rw [bP_f c45]; decide)]))
    · try simp only [b01_0, b01_n, bP_0, bP_n, Classical.not_not] at c29
      refine aw_aload_n G dX9_sides_32 rfl ?_
      refine aw_iconst G dX9_sides_33 ?_
      refine cv_X9_77 G dX9_sides_34 (c_X9_refused (by decide)) (kk := fun r34 t34 h34 => ?_)
      obtain ⟨rfl, ee34⟩ := h34
      obtain rfl := ee34.symm
      exact aw_iret G T dX9_sides_37 (⟨by unfold an_sides; rw [if_pos (by omega)], by unfold nx_sides; rw [if_pos (by omega)]; exact RX_ref hX (by decide), (MS.rf _).up (by decide)⟩)
  · refine aw_aload_n G dX9_sides_5 rfl ?_
    refine gf_X9_42 G dX9_sides_6 (kk := ?_)
    refine cv_X9_224 G dX9_sides_9 (c_X6_hasSides hN) (kk := fun r9 t9 h9 => ?_)
    obtain ⟨rfl, ee9⟩ := h9
    obtain rfl := ee9.symm
    refine aw_if_eq (tgt := 19) G dX9_sides_12 (by decide) (bP_R _) (fun c12 => ?_) (fun c12 => ?_)
    · try simp only [b01_0, b01_n, bP_0, bP_n, Classical.not_not] at c12
      refine aw_iconst G dX9_sides_19 ?_
      exact aw_iret G T dX9_sides_20 (by
    refine ⟨?_, by unfold nx_sides; rw [if_neg (by omega)]; exact hX, MS.rf _⟩
    unfold an_sides
    rw [if_neg (by omega), ← hnod]
    first
      | (rw [if_pos (by omega)]; exact (bP_t c12).symm)
      | (rw [if_pos (by omega)]; exact (bP_f c12).symm))
    · try simp only [b01_0, b01_n, bP_0, bP_n, Classical.not_not] at c12
      refine aw_iconst G dX9_sides_15 ?_
      refine aw_goto (tgt := 20) G dX9_sides_16 (by decide) ?_
      exact aw_iret G T dX9_sides_20 (by
    refine ⟨?_, by unfold nx_sides; rw [if_neg (by omega)]; exact hX, MS.rf _⟩
    unfold an_sides
    rw [if_neg (by omega), ← hnod]
    first
      | (rw [if_pos (by omega)]; exact (bP_t c12).symm)
      | (rw [if_pos (by omega)]; exact (bP_f c12).symm))
