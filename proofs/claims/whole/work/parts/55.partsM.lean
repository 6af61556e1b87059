section TS
variable {L N : Int} {a b : Int → Int} {p : Int}
def RS1 (L : Int) (a b : Int → Int) (p l x y : Int) : Prop := (0 ≤ y ∧ y < 128) ∧ (∀ i : Int, 0 ≤ i → bit x i → bit y i) ∧ (∀ i : Int, 0 ≤ i → i < 7 → bit y i → rch L a b p i) ∧ (y = x → ∀ l' : Int, 0 ≤ l' → l' < l → (bit x (a l') → bit x (b l')) ∧ (bit x (b l') → bit x (a l')))
theorem rs1_0 {x : Int} (hx : 0 ≤ x ∧ x < 128) (hs : ∀ i : Int, 0 ≤ i → i < 7 → bit x i → rch L a b p i) : RS1 L a b p 0 x x := ⟨hx, fun _ _ h => h, hs, fun _ l' h0 h1 => by omega⟩
theorem ior_R1 {x y : Int} (hx : 0 ≤ x ∧ x < 128) (hy : 0 ≤ y ∧ y < 128) : 0 ≤ ior x y ∧ ior x y < 128 := or_R 7 (by decide) hx hy
theorem shl_R1 {c : Int} (hc : 0 ≤ c ∧ c < 7) : 0 ≤ ishl 1 c ∧ ishl 1 c < 128 := by
  have h2 : 2 ^ c.toNat ≤ 2 ^ 6 := Nat.pow_le_pow_right (by decide) (by omega)
  have h3 := (ishl_v (a := c) (by omega)).1
  have h4 := Nat.two_pow_pos c.toNat
  omega
theorem both_b {c d i : Int} (hc : 0 ≤ c ∧ c < 7) (hd : 0 ≤ d ∧ d < 7) (hi : 0 ≤ i) : bit (ior (ishl 1 c) (ishl 1 d)) i ↔ i = c ∨ i = d := by
  have h1 := shl_R1 hc
  have h2 := shl_R1 hd
  rw [bit_or (by omega) (by omega), bit_l (by omega) hi, bit_l (by omega) hi]
theorem rs1_f {l x y : Int} (hab : ∀ l : Int, 0 ≤ l → l < L → (0 ≤ a l ∧ a l < 7) ∧ 0 ≤ b l ∧ b l < 7) (h : RS1 L a b p l x y) (h0 : 0 ≤ l) (h1 : l < L) (hx : 0 ≤ x ∧ x < 128) (hz : iand y (ior (ishl 1 (a l)) (ishl 1 (b l))) = 0) : RS1 L a b p (l + 1) x y := by
  obtain ⟨hy, hsub, hs, hc⟩ := h
  have hl := hab l h0 h1
  have hR := ior_R1 (shl_R1 hl.1) (shl_R1 hl.2)
  have hz2 := (and_0 (x := y) (by omega) (by omega)).mp hz
  refine ⟨hy, hsub, hs, fun e l' l0 l1 => ?_⟩
  by_cases el : l' = l
  · rw [el]
    subst e
    exact ⟨fun q => absurd ((both_b hl.1 hl.2 hl.1.1).mpr (Or.inl rfl)) (hz2 _ hl.1.1 q), fun q => absurd ((both_b hl.1 hl.2 hl.2.1).mpr (Or.inr rfl)) (hz2 _ hl.2.1 q)⟩
  · exact hc e l' l0 (by omega)
theorem rs1_t {l x y : Int} (hab : ∀ l : Int, 0 ≤ l → l < L → (0 ≤ a l ∧ a l < 7) ∧ 0 ≤ b l ∧ b l < 7) (h : RS1 L a b p l x y) (h0 : 0 ≤ l) (h1 : l < L) (hx : 0 ≤ x ∧ x < 128) (hz : ¬ iand y (ior (ishl 1 (a l)) (ishl 1 (b l))) = 0) : RS1 L a b p (l + 1) x (ior y (ior (ishl 1 (a l)) (ishl 1 (b l)))) := by
  obtain ⟨hy, hsub, hs, hc⟩ := h
  have hl := hab l h0 h1
  have hR := ior_R1 (shl_R1 hl.1) (shl_R1 hl.2)
  have hz2 : bit y (a l) ∨ bit y (b l) := by
    by_cases c : bit y (a l) ∨ bit y (b l)
    · exact c
    · refine absurd ((and_0 (x := y) (by omega) (by omega)).mpr fun i i0 q z => ?_) hz
      rcases (both_b hl.1 hl.2 i0).mp z with e | e
      · rw [e] at q; exact c (Or.inl q)
      · rw [e] at q; exact c (Or.inr q)
  have hr : rch L a b p (a l) ∧ rch L a b p (b l) := by
    have hw := rch_1 (a := a) (b := b) (p := p) h0 h1
    rcases hz2 with q | q
    · have := hs _ hl.1.1 hl.1.2 q
      exact ⟨this, hw.1 this⟩
    · have := hs _ hl.2.1 hl.2.2 q
      exact ⟨hw.2 this, this⟩
  have e1 : ∀ i : Int, bit (ior y (ior (ishl 1 (a l)) (ishl 1 (b l)))) i ↔ bit y i ∨ bit (ior (ishl 1 (a l)) (ishl 1 (b l))) i := fun i => bit_or (by omega) (by omega)
  refine ⟨ior_R1 hy hR, fun i i0 q => (e1 i).mpr (Or.inl (hsub i i0 q)), fun i i0 i1 q => ?_, fun e => ?_⟩
  · rcases (e1 i).mp q with q | q
    · exact hs i i0 i1 q
    · rcases (both_b hl.1 hl.2 i0).mp q with e | e
      · rw [e]; exact hr.1
      · rw [e]; exact hr.2
  · have hyx : y = x := bit_ext hy.1 hx.1 fun i i0 => ⟨fun q => by rw [← e]; exact (e1 i).mpr (Or.inl q), hsub i i0⟩
    intro l' l0 l1
    by_cases el : l' = l
    · have ha : bit x (a l) := by rw [← e]; exact (e1 _).mpr (Or.inr ((both_b hl.1 hl.2 hl.1.1).mpr (Or.inl rfl)))
      have hb : bit x (b l) := by rw [← e]; exact (e1 _).mpr (Or.inr ((both_b hl.1 hl.2 hl.2.1).mpr (Or.inr rfl)))
      rw [el]
      exact ⟨fun _ => hb, fun _ => ha⟩
    · exact hc hyx l' l0 (by omega)
theorem rs1_e {x : Int} (hp : bit x p) (hx : 0 ≤ x ∧ x < 128) (hs : ∀ i : Int, 0 ≤ i → i < 7 → bit x i → rch L a b p i) (hc : ∀ l' : Int, 0 ≤ l' → l' < L → (bit x (a l') → bit x (b l')) ∧ (bit x (b l') → bit x (a l'))) : x = setN (rch L a b p) 7 :=
  set_e 7 hx fun i i0 i1 => ⟨hs i i0 (by omega), fun ⟨_, h⟩ => cl_1 (P := bit x) hp hc h⟩
theorem lst_e {q : Int} (hq : 0 ≤ q ∧ q < 7) : (setN (rch L a b q) 7).tmod (ishl 1 q) = 0 ↔ lst L a b q := by
  have hR := part_R (L := L) (a := a) (b := b) (p := q)
  rw [mod_0 (by omega) (by omega)]
  exact ⟨fun h i i0 i1 z => h i i0 i1 ((part_b i0).mpr ⟨by omega, z⟩), fun h i i0 i1 z => h i i0 i1 ((part_b i0).mp z).2⟩
/-- told points and their sides -/
def TS (L : Int) (a b : Int → Int) (N T S : Int) : Prop := (0 ≤ T ∧ T < 128) ∧ (0 ≤ S ∧ S < 128) ∧ (∀ q : Int, 0 ≤ q → bit T q → q < N ∧ ∃ (r : Int) (n : Nat), 0 ≤ r ∧ lst L a b r ∧ wk L a b r n q ∧ (bit S q ↔ n % 2 = 1)) ∧ (∀ q : Int, 0 ≤ q → bit S q → bit T q) ∧ ∀ q : Int, 0 ≤ q → q < N → lst L a b q → bit T q
theorem ts_0 {T : Int} (hT : 0 ≤ T ∧ T < 128) (h : ∀ i : Int, 0 ≤ i → (bit T i ↔ i < N ∧ lst L a b i)) : TS L a b N T 0 :=
  ⟨hT, by omega, fun q q0 hq => ⟨((h q q0).mp hq).1, q, 0, q0, ((h q q0).mp hq).2, rfl, ⟨fun z => absurd z (bit_0 q), fun z => by omega⟩⟩, fun q _ z => absurd z (bit_0 q), fun q q0 q1 z => (h q q0).mpr ⟨q1, z⟩⟩
theorem ts_step {T S c d v : Int} (h : TS L a b N T S) (hc : 0 ≤ c ∧ c < 7) (hd : 0 ≤ d ∧ d < 7 ∧ d < N) (hw : ∀ (r : Int) (n : Nat), wk L a b r n c → wk L a b r (n + 1) d) (h1 : bit T c) (h2 : ¬ bit T d) (hv : (bit S c ∧ v = 0) ∨ (¬ bit S c ∧ v = ishl 1 d)) : TS L a b N (ior T (ishl 1 d)) (ior S v) := by
  obtain ⟨hT, hS, t3, t4, t5⟩ := h
  have hd1 := shl_R1 (c := d) (by omega)
  have hvR : 0 ≤ v ∧ v < 128 := by omega
  have e1 : ∀ i : Int, 0 ≤ i → (bit (ior T (ishl 1 d)) i ↔ bit T i ∨ i = d) := fun i i0 => by rw [bit_or (by omega) (by omega), bit_l (by omega) i0]
  have e2 : ∀ i : Int, 0 ≤ i → (bit (ior S v) i ↔ bit S i ∨ (¬ bit S c ∧ i = d)) := fun i i0 => by
    rw [bit_or (by omega) (by omega)]
    rcases hv with ⟨q1, q2⟩ | ⟨q1, q2⟩
    · rw [q2]
      exact ⟨fun z => Or.inl (z.elim id fun z => absurd z (bit_0 i)), fun z => Or.inl (z.elim id fun z => absurd q1 z.1)⟩
    · rw [q2, bit_l (by omega) i0]
      exact ⟨fun z => z.elim Or.inl fun z => Or.inr ⟨q1, z⟩, fun z => z.elim Or.inl fun z => Or.inr z.2⟩
  refine ⟨ior_R1 hT hd1, ior_R1 hS hvR, fun q q0 hq => ?_, fun q q0 hq => ?_, fun q q0 q1 z => (e1 q q0).mpr (Or.inl (t5 q q0 q1 z))⟩
  · rw [e2 q q0]
    rcases (e1 q q0).mp hq with z | z
    · obtain ⟨q1, r, n, r0, r1, r2, r3⟩ := t3 q q0 z
      refine ⟨q1, r, n, r0, r1, r2, ?_⟩
      rw [← r3]
      exact ⟨fun y => y.elim id fun y => absurd (by rw [y.2] at z; exact z) h2, Or.inl⟩
    · obtain ⟨q1, r, n, r0, r1, r2, r3⟩ := t3 c hc.1 h1
      refine ⟨by omega, r, n + 1, r0, r1, by rw [z]; exact hw r n r2, ?_⟩
      rw [z]
      have hsd : ¬ bit S d := fun y => h2 (t4 d hd.1 y)
      constructor
      · intro y
        rcases y with y | y
        · exact absurd y hsd
        · have : ¬ n % 2 = 1 := fun x => y.1 (r3.mpr x)
          omega
      · intro y
        exact Or.inr ⟨fun x => by have := r3.mp x; omega, rfl⟩
  · rcases (e2 q q0).mp hq with z | z
    · exact (e1 q q0).mpr (Or.inl (t4 q q0 z))
    · exact (e1 q q0).mpr (Or.inr z.2)
def CL (L : Int) (a b : Int → Int) (T : Int) : Prop := ∀ l : Int, 0 ≤ l → l < L → (bit T (a l) ↔ bit T (b l))
def RT (L : Int) (a b : Int → Int) (l T0 T : Int) : Prop := (∀ i : Int, 0 ≤ i → bit T0 i → bit T i) ∧ (T = T0 → ∀ l' : Int, 0 ≤ l' → l' < l → (bit T0 (a l') ↔ bit T0 (b l'))) ∧ (CL L a b T0 → T = T0)
theorem rt_0 (T : Int) : RT L a b 0 T T := ⟨fun _ _ h => h, fun _ l' h0 h1 => by omega, fun _ => rfl⟩
theorem rtn_n {l T0 T : Int} (h : RT L a b l T0 T) (hz : bit T (a l) ↔ bit T (b l)) : RT L a b (l + 1) T0 T := by
  obtain ⟨h1, h2, h3⟩ := h
  refine ⟨h1, fun e l' l0 l1 => ?_, h3⟩
  by_cases el : l' = l
  · rw [el, ← e]; exact hz
  · exact h2 e l' l0 (by omega)
theorem rt_y {l T0 T c d : Int} (h : RT L a b l T0 T) (h0 : 0 ≤ l) (h1 : l < L) (hT : 0 ≤ T ∧ T < 128) (hd : 0 ≤ d ∧ d < 7) (hcd : (a l = c ∧ b l = d) ∨ (b l = c ∧ a l = d)) (hc1 : bit T c) (hd1 : ¬ bit T d) : RT L a b (l + 1) T0 (ior T (ishl 1 d)) := by
  obtain ⟨r1, r2, r3⟩ := h
  have hs := shl_R1 hd
  have e1 : ∀ i : Int, 0 ≤ i → (bit (ior T (ishl 1 d)) i ↔ bit T i ∨ i = d) := fun i i0 => by rw [bit_or (by omega) (by omega), bit_l (by omega) i0]
  refine ⟨fun i i0 q => (e1 i i0).mpr (Or.inl (r1 i i0 q)), fun e => ?_, fun hcl => ?_⟩
  · have : bit T0 d := by rw [← e]; exact (e1 d hd.1).mpr (Or.inr rfl)
    exact absurd (r1 d hd.1 this) hd1
  · have e := r3 hcl
    have := hcl l h0 h1
    rw [← e] at this
    rcases hcd with ⟨x, y⟩ | ⟨x, y⟩
    · rw [x, y] at this; exact absurd (this.mp hc1) hd1
    · rw [x, y] at this; exact absurd (this.mpr hc1) hd1
theorem ts_cl {T S k : Int} (hN : 1 ≤ N ∧ N ≤ 7) (h : TS L a b N T S) (hk : N ≤ k) (hc : CL L a b T ∨ k + 1 ≤ pc T 7) : CL L a b T := by
  rcases hc with q | q
  · exact q
  · obtain ⟨hT, hS, t3, t4, t5⟩ := h
    have h1 : pc T (N.toNat + (7 - N.toNat)) = pc T N.toNat := pc_hi (fun i i0 z => by have := (t3 i (by omega) z).1; omega) _
    rw [show N.toNat + (7 - N.toNat) = 7 by omega] at h1
    have h2 := (pc_R T N.toNat).2
    omega
/-- in the end all points are told -/
theorem ts_all {T S : Int} (h : TS L a b N T S) (hab : ∀ l : Int, 0 ≤ l → l < L → (0 ≤ a l ∧ a l < N) ∧ 0 ≤ b l ∧ b l < N) (hc : CL L a b T) {q : Int} (q0 : 0 ≤ q) (q1 : q < N) : bit T q := by
  obtain ⟨hT, hS, t3, t4, t5⟩ := h
  obtain ⟨r, ⟨r0, r1, r2⟩, r3⟩ := lsw_e (L := L) (a := a) (b := b) q0
  have hr := t5 r r0 (by omega) r2
  obtain ⟨n, hn⟩ := rch_s r1
  exact cl_1 (P := bit T) hr (fun l l0 l1 => ⟨(hc l l0 l1).mp, (hc l l0 l1).mpr⟩) hn
theorem ts_f {T S l : Int} (h : TS L a b N T S) (hab : ∀ l : Int, 0 ≤ l → l < L → (0 ≤ a l ∧ a l < N) ∧ 0 ≤ b l ∧ b l < N) (hc : CL L a b T) (h0 : 0 ≤ l) (h1 : l < L) (he : bit S (a l) ↔ bit S (b l)) : ¬ nod L a b N := fun hn => by
  have hl := hab l h0 h1
  have ha := ts_all h hab hc hl.1.1 hl.1.2
  have hb := ts_all h hab hc hl.2.1 hl.2.2
  obtain ⟨hT, hS, t3, t4, t5⟩ := h
  obtain ⟨-, r, n, r0, r1, r2, r3⟩ := t3 _ hl.1.1 ha
  obtain ⟨-, s, m, s0, s1, s2, s3⟩ := t3 _ hl.2.1 hb
  have w1 := (wk_1 (a := a) (b := b) h0 h1).1 r2
  have w2 := wk_t w1 (wk_s s2)
  have e : r = s := by
    have u1 : lsw L a b r r := ⟨r0, rch_0 r, r1⟩
    have u2 : lsw L a b r s := ⟨s0, ⟨_, w2⟩, s1⟩
    exact lsw_u u1 u2
  subst e
  have hrN : r < N := by
    have hx : wk L a b (a l) n r := wk_s r2
    exact (wk_R hab hl.1 hx).2
  rw [r3, s3] at he
  exact hn r r0 hrN (odd_n w2 (by omega))
theorem ts_t {T S : Int} (h : TS L a b N T S) (hab : ∀ l : Int, 0 ≤ l → l < L → (0 ≤ a l ∧ a l < N) ∧ 0 ≤ b l ∧ b l < N) (hc : CL L a b T) (hp : ∀ l : Int, 0 ≤ l → l < L → (bit S (a l) ↔ ¬ bit S (b l))) : nod L a b N ∧ ∀ q : Int, 0 ≤ q → q < N → (bit S q ↔ sid L a b q) := by
  have hn : nod L a b N := nod_two (S := bit S) hp
  refine ⟨hn, fun q q0 q1 => ?_⟩
  have hq := ts_all h hab hc q0 q1
  obtain ⟨hT, hS, t3, t4, t5⟩ := h
  obtain ⟨-, r, n, r0, r1, r2, r3⟩ := t3 q q0 hq
  have hl : lsw L a b q r := ⟨r0, ⟨_, wk_s r2⟩, r1⟩
  rw [r3]
  constructor
  · intro e
    exact ⟨r, hl, odd_n r2 e⟩
  · rintro ⟨s, s1, m, s2⟩
    have e : s = r := lsw_u s1 hl
    subst e
    by_cases c : n % 2 = 1
    · exact c
    · have w := wk_t s2 (wk_s r2)
      have hsN : s < N := (wk_R hab ⟨q0, q1⟩ (wk_s r2)).2
      exact absurd (odd_n w (by omega)) (hn s r0 hsN)
end TS
theorem up_up {σ : St} {k : Nat} {j x y : Int} : up (up σ k j x) k j y = up σ k j y := by
  funext k' j'
  unfold up
  split <;> rfl
theorem ME_22 (σ : St) (s : Int) : ME (up σ 75 22 s) σ := ⟨pp_no (fun j a => up_nj (by omega)) (fun k a => up_ne (by omega)), fun k a => up_ne (by omega)⟩
theorem OK_22 {σ : St} {s : Int} (h : NetOK σ 75) : NetOK (up σ 75 22 s) 75 := by
  unfold NetOK RowOK at h ⊢
  rw [up_nj (show (0 : Int) ≠ 22 by decide), up_nj (show (1 : Int) ≠ 22 by decide), up_ne (show 75 + 1 ≠ 75 by decide), up_ne (show 75 + 2 ≠ 75 by decide), up_ne (show 75 + 3 ≠ 75 by decide), up_ne (show 75 + 4 ≠ 75 by decide), up_ne (show 75 + 5 ≠ 75 by decide)]
  exact h
theorem tm_R {x y : Int} (hx : 0 ≤ x ∧ x < 128) : inR (x.tmod y) := by
  have h := Int.natAbs_tmod x y
  have h2 : x.natAbs % y.natAbs ≤ x.natAbs := Nat.mod_le _ _
  omega
theorem bP_i {P Q : Prop} (h : bP P = bP Q) : P ↔ Q := by
  by_cases p : P <;> by_cases q : Q
  · exact ⟨fun _ => q, fun _ => p⟩
  · rw [bP_t p, bP_f q] at h; omega
  · rw [bP_f p, bP_t q] at h; omega
  · exact ⟨fun z => absurd z p, fun z => absurd z q⟩
theorem bP_ni {P Q : Prop} (h : ¬ bP P = bP Q) : P ↔ ¬ Q := by
  by_cases p : P <;> by_cases q : Q
  · rw [bP_t p, bP_t q] at h; omega
  · exact ⟨fun _ => q, fun _ => p⟩
  · exact ⟨fun z => absurd z p, fun z => absurd q z⟩
  · rw [bP_f p, bP_f q] at h; omega
theorem bP_y {P : Prop} (h : bP P = 1) : P := by
  by_cases p : P
  · exact p
  · rw [bP_f p] at h; omega
theorem bP_no {P : Prop} (h : ¬ bP P = 1) : ¬ P := fun p => h (bP_t p)
set_option maxHeartbeats 4000000 in
theorem c_X10_partOf {V : Wd} {σ : St} {p : Int} (hN : NetOK σ 75) (hp : 0 ≤ p ∧ p < 7) : Ct V yX10_partOf cX10_partOf 6 (some .int) 0 0 [rv V 75, iv p] σ (PI (fun r τ => r = setN (rch (σ 75 1) (σ 78) (σ 79) p) 7 ∧ τ = σ)) := by
  refine ct_of (by decide) (Nat.le_of_ble_eq_true rfl) (fun X G T => ?_)
  have G : Gd X V cX10_partOf RX10 6 0 0 := G
  show AW X V σ 0 [] [some (rv V 75), some (iv p), none, none, none, none]
  obtain ⟨n1, n2, n3, n4, n5, n6⟩ := id hN
  have hab := ends hN
  have loop : ∀ (n0 : Nat) (x : Int) (w : Int) (u4 : Option Value) (u5 : Option Value), (9 ≤ pc x 7 + (n0 : Int) ∨ (x = w ∧ 1 ≤ (n0 : Int))) → (pc x 7 ≤ 7) → (0 ≤ w ∧ w < 128) → (0 ≤ x ∧ x < 128) → (∀ i : Int, 0 ≤ i → i < 7 → bit x i → rch (σ 75 1) (σ 78) (σ 79) p i) → (bit x p) → (x = w → ∀ l : Int, 0 ≤ l → l < σ 75 1 → (bit x (σ 78 l) → bit x (σ 79 l)) ∧ (bit x (σ 79 l) → bit x (σ 78 l))) → AW X V (σ) 6 [] [some (rv V 75), some (iv p), some (iv x), some (iv w), u4, u5] := by
    intro n0
    induction n0 with
    | zero =>
      intro x w u4 u5 h1 hpc hw0 hx hs hb hc
      exfalso
      omega
    | succ n0 ih =>
      intro x w u4 u5 h1 hpc hw0 hx hs hb hc
      refine aw_iload_n G dX10_partOf_6 rfl ?_
      refine aw_iload_n G dX10_partOf_7 rfl ?_
      refine aw_icmp_eq (tgt := 71) G dX10_partOf_8 (by decide) (by first | omega | exact b01_R _ | exact bP_R _) (by omega) (fun c8 => ?_) (fun c8 => ?_)
      · refine aw_iload_n G dX10_partOf_71 rfl ?_
        exact aw_iret G T dX10_partOf_72 (⟨rs1_e hb hx hs (hc c8), rfl⟩)
      · refine aw_iload_n G dX10_partOf_11 rfl ?_
        refine aw_istore_3 G dX10_partOf_12 (hc := by first | rfl | assumption) (k := ?_)
        refine aw_iconst G dX10_partOf_13 ?_
        refine aw_istore_4 G dX10_partOf_14 (hc := by first | rfl | assumption) (k := ?_)
        have inner : ∀ (n1 : Nat) (l : Int) (y : Int) (u5 : Option Value), (0 ≤ l ∧ l ≤ σ 75 1) → (σ 75 1 < l + (n1 : Int)) → (RS1 (σ 75 1) (σ 78) (σ 79) p l x y) → AW X V (σ) 16 [] [some (rv V 75), some (iv p), some (iv y), some (iv x), some (iv l), u5] := by
          intro n1
          induction n1 with
          | zero =>
            intro l y u5 g0 g1 gR
            exfalso
            omega
          | succ n1 ih1 =>
            intro l y u5 g0 g1 gR
            have hy := gR.1
            refine aw_iload G dX10_partOf_16 rfl ?_
            refine aw_aload_n G dX10_partOf_18 rfl ?_
            refine gf_X10_82 G dX10_partOf_19 (kk := ?_)
            refine aw_icmp_ge (tgt := 68) G dX10_partOf_22 (by decide) (by first | omega | exact b01_R _ | exact bP_R _) (by first | omega | exact b01_R _ | exact bP_R _) (fun c22 => ?_) (fun c22 => ?_)
            · refine aw_goto (tgt := 6) G dX10_partOf_68 (by decide) ?_
              have el : l = σ 75 1 := by omega
              rw [el] at gR
              have hpy := (pc_R y 7).2
              by_cases e : y = x
              · exact ih y x _ _ (by omega) hpy hx hy gR.2.2.1 (gR.2.1 p hp.1 hb) (fun _ => by rw [e] at gR ⊢; exact gR.2.2.2 rfl)
              · have hg := pc_gr 7 hx hy (gR.2.1) e
                exact ih y x _ _ (by omega) hpy hx hy gR.2.2.1 (gR.2.1 p hp.1 hb) (fun q => absurd q e)
            · have hl : (0 ≤ σ 78 l ∧ σ 78 l < 7) ∧ 0 ≤ σ 79 l ∧ σ 79 l < 7 := hab l g0.1 (by omega)
              refine aw_iconst G dX10_partOf_25 ?_
              refine aw_aload_n G dX10_partOf_26 rfl ?_
              refine gf_X10_20 G dX10_partOf_27 (kk := ?_)
              refine aw_iload G dX10_partOf_30 rfl ?_
              refine aw_iaload G dX10_partOf_32 (by first | decide | assumption | omega) (by first | rfl | assumption) (by first | decide | assumption) (by omega) ?_
              refine aw_ishl G dX10_partOf_33 ?_
              refine aw_iconst G dX10_partOf_34 ?_
              refine aw_aload_n G dX10_partOf_35 rfl ?_
              refine gf_X10_23 G dX10_partOf_36 (kk := ?_)
              refine aw_iload G dX10_partOf_39 rfl ?_
              refine aw_iaload G dX10_partOf_41 (by first | decide | assumption | omega) (by first | rfl | assumption) (by first | decide | assumption) (by omega) ?_
              refine aw_ishl G dX10_partOf_42 ?_
              refine aw_ior G dX10_partOf_43 ?_
              refine aw_istore_5 G dX10_partOf_44 (hc := by first | rfl | assumption) (k := ?_)
              refine aw_iload_n G dX10_partOf_46 rfl ?_
              refine aw_iload_n G dX10_partOf_47 rfl ?_
              refine aw_iload G dX10_partOf_48 rfl ?_
              refine aw_iand G dX10_partOf_50 ?_
              refine aw_if_eq (tgt := 59) G dX10_partOf_51 (by decide) (iand_R _ _) (fun c51 => ?_) (fun c51 => ?_)
              · refine aw_iconst G dX10_partOf_59 ?_
                refine aw_ior G dX10_partOf_60 ?_
                refine aw_istore_2 G dX10_partOf_61 (hc := by first | rfl | assumption) (k := ?_)
                refine aw_iinc_4 G dX10_partOf_62 rfl (hc := by first | rfl | assumption) (k := ?_)
                refine aw_goto (tgt := 16) G dX10_partOf_65 (by decide) ?_
                rw [ior_0 (by omega)]
                exact ih1 (l + 1) _ _ (by omega) (by omega) (rs1_f hab gR g0.1 (by omega) hx c51)
              · refine aw_iload G dX10_partOf_54 rfl ?_
                refine aw_goto (tgt := 60) G dX10_partOf_56 (by decide) ?_
                refine aw_ior G dX10_partOf_60 ?_
                refine aw_istore_2 G dX10_partOf_61 (hc := by first | rfl | assumption) (k := ?_)
                refine aw_iinc_4 G dX10_partOf_62 rfl (hc := by first | rfl | assumption) (k := ?_)
                refine aw_goto (tgt := 16) G dX10_partOf_65 (by decide) ?_
                exact ih1 (l + 1) _ _ (by omega) (by omega) (rs1_t hab gR g0.1 (by omega) hx c51)
        exact inner ((σ 75 1).toNat + 1) 0 x _ (by omega) (by omega) (rs1_0 hx hs)
  refine aw_iconst G dX10_partOf_0 ?_
  refine aw_iload_n G dX10_partOf_1 rfl ?_
  refine aw_ishl G dX10_partOf_2 ?_
  refine aw_istore_2 G dX10_partOf_3 (hc := by first | rfl | assumption) (k := ?_)
  refine aw_iconst G dX10_partOf_4 ?_
  refine aw_istore_3 G dX10_partOf_5 (hc := by first | rfl | assumption) (k := ?_)
  have hR := shl_R1 hp
  have hb := fun i (i0 : 0 ≤ i) => bit_l (a := p) (i := i) (by omega) i0
  have hp1 := pc_1 hp.1 ((hb p hp.1).mpr rfl) 7 (by omega)
  exact loop 8 (ishl 1 p) 0 _ _ (by omega) (pc_R _ 7).2 (by omega) hR (fun i i0 i1 q => by rw [(hb i i0).mp q]; exact rch_0 p) ((hb p hp.1).mpr rfl) (fun q => absurd ((hb p hp.1).mpr rfl) (by rw [q]; exact bit_0 p))
set_option maxHeartbeats 4000000 in
theorem c_X10_parts {V : Wd} {σ : St} {p : Int} (h1 : inR p) (hk : OK σ) : Ct V yX10_parts cX10_parts 4 (some .int) 2 43 [rv V 75, iv p] σ (PI (fun r τ => r = an_parts σ p ∧ ME τ (nx_parts σ p))) := by
  refine ct_of (by decide) (Nat.le_of_ble_eq_true rfl) (fun X G T => ?_)
  have G : Gd X V cX10_parts RX10 4 2 43 := G
  show AW X V σ 0 [] [some (rv V 75), some (iv p), none, none]
  obtain ⟨⟨n1, n2, n3, n4, n5, n6⟩, u1, l1, l2, i1, s1, w1⟩ := id hk
  have loop : ∀ (n0 : Nat) (i : Int), (p = -1) → (0 ≤ i ∧ i ≤ σ 75 0) → (σ 75 0 < i + (n0 : Int)) → AW X V (σ) 33 [] [some (rv V 75), some (iv p), some (iv (sumTo (fun q => bP (lst (σ 75 1) (σ 78) (σ 79) q)) i.toNat)), some (iv i)] := by
    intro n0
    induction n0 with
    | zero =>
      intro i hp h0 hc
      exfalso
      omega
    | succ n0 ih =>
      intro i hp h0 hc
      refine aw_iload_n G dX10_parts_33 rfl ?_
      refine aw_aload_n G dX10_parts_34 rfl ?_
      refine gf_X10_7 G dX10_parts_35 (kk := ?_)
      refine aw_icmp_ge (tgt := 67) G dX10_parts_38 (by decide) (by first | omega | exact b01_R _ | exact bP_R _) (by first | omega | exact b01_R _ | exact bP_R _) (fun c38 => ?_) (fun c38 => ?_)
      · refine aw_iload_n G dX10_parts_67 rfl ?_
        exact aw_iret G T dX10_parts_68 (by
        refine ⟨?_, by unfold nx_parts; rw [if_neg (by omega)]; exact ME.rf _⟩
        unfold an_parts
        rw [if_neg (by omega), if_pos hp, show i = σ 75 0 by omega])
      · refine aw_iload_n G dX10_parts_41 rfl ?_
        refine aw_aload_n G dX10_parts_42 rfl ?_
        refine aw_iload_n G dX10_parts_43 rfl ?_
        refine cv_X10_233 G dX10_parts_44 (c_X10_partOf hk.1 (by omega)) (kk := fun r44 t44 h44 => ?_)
        obtain ⟨rfl, ee44⟩ := h44
        obtain rfl := ee44.symm
        refine aw_iconst G dX10_parts_47 ?_
        refine aw_iload_n G dX10_parts_48 rfl ?_
        refine aw_ishl G dX10_parts_49 ?_
        refine aw_irem G dX10_parts_50 (by have := part_R (L := σ 75 1) (a := σ 78) (b := σ 79) (p := i); omega) (by have := ishl_R (a := i) (by omega); omega) ?_
        refine aw_if_ne (tgt := 58) G dX10_parts_51 (by decide) (tm_R part_R) (fun c51 => ?_) (fun c51 => ?_)
        · refine aw_iconst G dX10_parts_58 ?_
          refine aw_iadd G dX10_parts_59 ?_
          refine aw_istore_2 G dX10_parts_60 (hc := by first | rfl | assumption) (k := ?_)
          refine aw_iinc_3 G dX10_parts_61 rfl (hc := by first | rfl | assumption) (k := ?_)
          refine aw_goto (tgt := 33) G dX10_parts_64 (by decide) ?_
          have hz := ih (i + 1) hp (by omega) (by omega)
          have e1 : sumTo (fun q => bP (lst (σ 75 1) (σ 78) (σ 79) q)) (i + 1).toNat = sumTo (fun q => bP (lst (σ 75 1) (σ 78) (σ 79) q)) i.toNat + bP (lst (σ 75 1) (σ 78) (σ 79) i) := by
            rw [show (i + 1).toNat = i.toNat + 1 by omega]
            show sumTo _ _ + bP (lst (σ 75 1) (σ 78) (σ 79) ((i.toNat : Nat) : Int)) = _
            rw [show ((i.toNat : Nat) : Int) = i by omega]
          first
            | (rw [e1, bP_t ((lst_e (by omega)).mp c51)] at hz
               exact hz)
            | (rw [e1, bP_f (fun z => c51 ((lst_e (by omega)).mpr z))] at hz
               exact hz)
        · refine aw_iconst G dX10_parts_54 ?_
          refine aw_goto (tgt := 59) G dX10_parts_55 (by decide) ?_
          refine aw_iadd G dX10_parts_59 ?_
          refine aw_istore_2 G dX10_parts_60 (hc := by first | rfl | assumption) (k := ?_)
          refine aw_iinc_3 G dX10_parts_61 rfl (hc := by first | rfl | assumption) (k := ?_)
          refine aw_goto (tgt := 33) G dX10_parts_64 (by decide) ?_
          have hz := ih (i + 1) hp (by omega) (by omega)
          have e1 : sumTo (fun q => bP (lst (σ 75 1) (σ 78) (σ 79) q)) (i + 1).toNat = sumTo (fun q => bP (lst (σ 75 1) (σ 78) (σ 79) q)) i.toNat + bP (lst (σ 75 1) (σ 78) (σ 79) i) := by
            rw [show (i + 1).toNat = i.toNat + 1 by omega]
            show sumTo _ _ + bP (lst (σ 75 1) (σ 78) (σ 79) ((i.toNat : Nat) : Int)) = _
            rw [show ((i.toNat : Nat) : Int) = i by omega]
          first
            | (rw [e1, bP_t ((lst_e (by omega)).mp c51)] at hz
               exact hz)
            | (rw [e1, bP_f (fun z => c51 ((lst_e (by omega)).mpr z))] at hz
               exact hz)
  refine aw_iload_n G dX10_parts_0 rfl ?_
  refine aw_iconst G dX10_parts_1 ?_
  refine aw_icmp_eq (tgt := 19) G dX10_parts_2 (by decide) (by first | omega | exact b01_R _ | exact bP_R _) (by first | omega | exact b01_R _ | exact bP_R _) (fun c2 => ?_) (fun c2 => ?_)
  · refine aw_iload_n G dX10_parts_19 rfl ?_
    refine aw_if_lt (tgt := 29) G dX10_parts_20 (by decide) (by first | omega | exact b01_R _ | exact bP_R _) (fun c20 => ?_) (fun c20 => ?_)
    · refine aw_iconst G dX10_parts_29 ?_
      refine aw_istore_2 G dX10_parts_30 (hc := by first | rfl | assumption) (k := ?_)
      refine aw_iconst G dX10_parts_31 ?_
      refine aw_istore_3 G dX10_parts_32 (hc := by first | rfl | assumption) (k := ?_)
      exact loop ((σ 75 0).toNat + 1) 0 (by omega) (by omega) (by omega)
    · refine aw_aload_n G dX10_parts_23 rfl ?_
      refine aw_iload_n G dX10_parts_24 rfl ?_
      refine cv_X10_233 G dX10_parts_25 (c_X10_partOf hk.1 (by omega)) (kk := fun r25 t25 h25 => ?_)
      obtain ⟨rfl, ee25⟩ := h25
      obtain rfl := ee25.symm
      exact aw_iret G T dX10_parts_28 (by
        refine ⟨?_, by unfold nx_parts; rw [if_neg (by omega)]; exact ME.rf _⟩
        unfold an_parts
        rw [if_neg (by omega), if_neg (by omega)])
  · refine aw_aload_n G dX10_parts_5 rfl ?_
    refine aw_iload_n G dX10_parts_6 rfl ?_
    refine cv_X10_100 G dX10_parts_7 (c_X10_isPoint (by first | assumption | omega) (by omega)) (kk := fun r7 t7 h7 => ?_)
    obtain ⟨rfl, ee7⟩ := h7
    obtain rfl := ee7.symm
    refine aw_if_ne (tgt := 19) G dX10_parts_10 (by decide) (by first | omega | exact b01_R _ | exact bP_R _) (fun c10 => ?_) (fun c10 => ?_)
    · try simp only [b01_0, b01_n, bP_0, bP_n, Classical.not_not] at c10
      refine aw_iload_n G dX10_parts_19 rfl ?_
      refine aw_if_lt (tgt := 29) G dX10_parts_20 (by decide) (by first | omega | exact b01_R _ | exact bP_R _) (fun c20 => ?_) (fun c20 => ?_)
      · refine aw_iconst G dX10_parts_29 ?_
        refine aw_istore_2 G dX10_parts_30 (hc := by first | rfl | assumption) (k := ?_)
        refine aw_iconst G dX10_parts_31 ?_
        refine aw_istore_3 G dX10_parts_32 (hc := by first | rfl | assumption) (k := ?_)
        exact loop ((σ 75 0).toNat + 1) 0 (by omega) (by omega) (by omega)
      · refine aw_aload_n G dX10_parts_23 rfl ?_
        refine aw_iload_n G dX10_parts_24 rfl ?_
        refine cv_X10_233 G dX10_parts_25 (c_X10_partOf hk.1 (by omega)) (kk := fun r25 t25 h25 => ?_)
        obtain ⟨rfl, ee25⟩ := h25
        obtain rfl := ee25.symm
        exact aw_iret G T dX10_parts_28 (by
        refine ⟨?_, by unfold nx_parts; rw [if_neg (by omega)]; exact ME.rf _⟩
        unfold an_parts
        rw [if_neg (by omega), if_neg (by omega)])
    · try simp only [b01_0, b01_n, bP_0, bP_n, Classical.not_not] at c10
      refine aw_aload_n G dX10_parts_13 rfl ?_
      refine aw_iconst G dX10_parts_14 ?_
      refine cv_X10_87 G dX10_parts_15 (c_X10_refused (by decide)) (kk := fun r15 t15 h15 => ?_)
      obtain ⟨rfl, ee15⟩ := h15
      obtain rfl := ee15.symm
      exact aw_iret G T dX10_parts_18 (⟨by unfold an_parts; rw [if_pos (by omega)], by unfold nx_parts; rw [if_pos (by omega)]; exact ME.rf _⟩)
set_option maxHeartbeats 4000000 in
theorem c_X10_haveSides {V : Wd} {σ : St}  (hN : NetOK σ 75) : Ct V yX10_haveSides cX10_haveSides 6 (some .boolean) 1 25 [rv V 75] σ (PI (fun r τ => ∃ S, τ = up σ 75 22 S ∧ (0 ≤ S ∧ S < 128) ∧ r = bP (nod (σ 75 1) (σ 78) (σ 79) (σ 75 0)) ∧ (r = 1 → ∀ q : Int, 0 ≤ q → q < σ 75 0 → (bit S q ↔ sid (σ 75 1) (σ 78) (σ 79) q)))) := by
  refine ct_of (by decide) (Nat.le_of_ble_eq_true rfl) (fun X G T => ?_)
  have G : Gd X V cX10_haveSides RX10 6 1 25 := G
  show AW X V σ 0 [] [some (rv V 75), none, none, none, none, none]
  obtain ⟨n1, n2, n3, n4, n5, n6⟩ := id hN
  have hab := ends hN
  have habN := endN hN
  have f0 : ∀ s : Int, up σ 75 22 s 75 0 = σ 75 0 := fun s => up_nj (by decide)
  have f1 : ∀ s : Int, up σ 75 22 s 75 1 = σ 75 1 := fun s => up_nj (by decide)
  have f78 : ∀ s : Int, up σ 75 22 s 78 = σ 78 := fun s => up_ne (by decide)
  have f79 : ∀ s : Int, up σ 75 22 s 79 = σ 79 := fun s => up_ne (by decide)
  have ends3 : ∀ (n0 : Nat) (l : Int) (U : Int) (S : Int) (u3 : Option Value) (u4 : Option Value) (u5 : Option Value), (0 ≤ l ∧ l ≤ σ 75 1) → (σ 75 1 < l + (n0 : Int)) → (TS (σ 75 1) (σ 78) (σ 79) (σ 75 0) U S) → (CL (σ 75 1) (σ 78) (σ 79) U) → (∀ j : Int, 0 ≤ j → j < l → (bit S (σ 78 j) ↔ ¬ bit S (σ 79 j))) → AW X V (up σ 75 22 S) 240 [] [some (rv V 75), some (iv U), some (iv l), u3, u4, u5] := by
    intro n0
    induction n0 with
    | zero =>
      intro l U S u3 u4 u5 h0 h1 hTS hC hq
      exfalso
      omega
    | succ n0 ih =>
      intro l U S u3 u4 u5 h0 h1 hTS hC hq
      refine aw_iload_n G dX10_haveSides_240 rfl ?_
      refine aw_aload_n G dX10_haveSides_241 rfl ?_
      refine gf_X10_82 G dX10_haveSides_242 (kk := ?_)
      rw [f1]
      refine aw_icmp_ge (tgt := 285) G dX10_haveSides_245 (by decide) (by first | omega | exact b01_R _ | exact bP_R _) (by first | omega | exact b01_R _ | exact bP_R _) (fun c245 => ?_) (fun c245 => ?_)
      · refine aw_iconst G dX10_haveSides_285 ?_
        exact aw_zret G T dX10_haveSides_286 (Or.inr rfl) (by
        have hz := ts_t hTS habN hC (fun j j0 j1 => hq j j0 (by omega))
        exact ⟨S, rfl, hTS.2.1, (bP_t hz.1).symm, fun _ => hz.2⟩)
      · have hl : (0 ≤ σ 78 l ∧ σ 78 l < 7) ∧ 0 ≤ σ 79 l ∧ σ 79 l < 7 := hab l h0.1 (by omega)
        have hS := hTS.2.1
        refine aw_aload_n G dX10_haveSides_248 rfl ?_
        refine gf_X10_236 G dX10_haveSides_249 (kk := ?_)
        rw [up_at]
        refine aw_aload_n G dX10_haveSides_252 rfl ?_
        refine gf_X10_20 G dX10_haveSides_253 (kk := ?_)
        refine aw_iload_n G dX10_haveSides_256 rfl ?_
        refine aw_iaload G dX10_haveSides_257 (by first | decide | assumption | omega) (by first | rfl | assumption) (by first | decide | assumption) (by omega) ?_
        rw [f78]
        refine aw_ishr G dX10_haveSides_258 ?_
        refine aw_iconst G dX10_haveSides_259 ?_
        refine aw_iand G dX10_haveSides_260 ?_
        rw [bit_1 (x := S) (a := σ 78 l) (by omega) (by omega)]
        refine aw_aload_n G dX10_haveSides_261 rfl ?_
        refine gf_X10_236 G dX10_haveSides_262 (kk := ?_)
        rw [up_at]
        refine aw_aload_n G dX10_haveSides_265 rfl ?_
        refine gf_X10_23 G dX10_haveSides_266 (kk := ?_)
        refine aw_iload_n G dX10_haveSides_269 rfl ?_
        refine aw_iaload G dX10_haveSides_270 (by first | decide | assumption | omega) (by first | rfl | assumption) (by first | decide | assumption) (by omega) ?_
        rw [f79]
        refine aw_ishr G dX10_haveSides_271 ?_
        refine aw_iconst G dX10_haveSides_272 ?_
        refine aw_iand G dX10_haveSides_273 ?_
        rw [bit_1 (x := S) (a := σ 79 l) (by omega) (by omega)]
        refine aw_icmp_ne (tgt := 279) G dX10_haveSides_274 (by decide) (bP_R _) (bP_R _) (fun c274 => ?_) (fun c274 => ?_)
        · refine aw_iinc_2 G dX10_haveSides_279 rfl (hc := by first | rfl | assumption) (k := ?_)
          refine aw_goto (tgt := 240) G dX10_haveSides_282 (by decide) ?_
          refine ih (l + 1) U S _ _ _ (by omega) (by omega) hTS hC (fun j j0 j1 => ?_)
          by_cases e : j = l
          · rw [e]; exact bP_ni c274
          · exact hq j j0 (by omega)
        · refine aw_iconst G dX10_haveSides_277 ?_
          exact aw_zret G T dX10_haveSides_278 (Or.inl rfl) (⟨S, rfl, hTS.2.1, (bP_f (ts_f hTS habN hC h0.1 (by omega) (bP_i c274))).symm, fun q => by omega⟩)
  have rounds : ∀ (n0 : Nat) (k : Int) (T0 : Int) (S0 : Int) (u3 : Option Value) (u4 : Option Value) (u5 : Option Value), (0 ≤ k ∧ k ≤ σ 75 0) → (σ 75 0 < k + (n0 : Int)) → (TS (σ 75 1) (σ 78) (σ 79) (σ 75 0) T0 S0) → (CL (σ 75 1) (σ 78) (σ 79) T0 ∨ k + 1 ≤ pc T0 7) → AW X V (up σ 75 22 S0) 47 [] [some (rv V 75), some (iv T0), some (iv k), u3, u4, u5] := by
    intro n0
    induction n0 with
    | zero =>
      intro k T0 S0 u3 u4 u5 h0 h1 hTS0 hc
      exfalso
      omega
    | succ n0 ih =>
      intro k T0 S0 u3 u4 u5 h0 h1 hTS0 hc
      have hT0 := hTS0.1
      refine aw_iload_n G dX10_haveSides_47 rfl ?_
      refine aw_aload_n G dX10_haveSides_48 rfl ?_
      refine gf_X10_7 G dX10_haveSides_49 (kk := ?_)
      rw [f0]
      refine aw_icmp_ge (tgt := 238) G dX10_haveSides_52 (by decide) (by first | omega | exact b01_R _ | exact bP_R _) (by first | omega | exact b01_R _ | exact bP_R _) (fun c52 => ?_) (fun c52 => ?_)
      · refine aw_iconst G dX10_haveSides_238 ?_
        refine aw_istore_2 G dX10_haveSides_239 (hc := by first | rfl | assumption) (k := ?_)
        exact ends3 ((σ 75 1).toNat + 1) 0 T0 S0 _ _ _ (by omega) (by omega) hTS0 (ts_cl ⟨n1, n2⟩ hTS0 (by omega) hc) (fun j j0 j1 => by omega)
      · refine aw_iconst G dX10_haveSides_55 ?_
        refine aw_istore_3 G dX10_haveSides_56 (hc := by first | rfl | assumption) (k := ?_)
        have inner : ∀ (n1 : Nat) (l : Int) (T : Int) (S : Int) (u4 : Option Value) (u5 : Option Value), (0 ≤ l ∧ l ≤ σ 75 1) → (σ 75 1 < l + (n1 : Int)) → (TS (σ 75 1) (σ 78) (σ 79) (σ 75 0) T S) → (RT (σ 75 1) (σ 78) (σ 79) l T0 T) → AW X V (up σ 75 22 S) 57 [] [some (rv V 75), some (iv T), some (iv k), some (iv l), u4, u5] := by
          intro n1
          induction n1 with
          | zero =>
            intro l T S u4 u5 g0 g1 hTS hRT
            exfalso
            omega
          | succ n1 ih1 =>
            intro l T S u4 u5 g0 g1 hTS hRT
            have hT := hTS.1
            have hS := hTS.2.1
            refine aw_iload_n G dX10_haveSides_57 rfl ?_
            refine aw_aload_n G dX10_haveSides_58 rfl ?_
            refine gf_X10_82 G dX10_haveSides_59 (kk := ?_)
            rw [f1]
            refine aw_icmp_ge (tgt := 232) G dX10_haveSides_62 (by decide) (by first | omega | exact b01_R _ | exact bP_R _) (by first | omega | exact b01_R _ | exact bP_R _) (fun c62 => ?_) (fun c62 => ?_)
            · refine aw_iinc_2 G dX10_haveSides_232 rfl (hc := by first | rfl | assumption) (k := ?_)
              refine aw_goto (tgt := 47) G dX10_haveSides_235 (by decide) ?_
              have el : l = σ 75 1 := by omega
              rw [el] at hRT
              refine ih (k + 1) T S _ _ _ (by omega) (by omega) hTS ?_
              by_cases e : T = T0
              · exact Or.inl (by rw [e]; exact hRT.2.1 e)
              · have hg := pc_gr 7 hT0 hT hRT.1 e
                rcases hc with q | q
                · exact absurd (hRT.2.2 q) e
                · exact Or.inr (by omega)
            · have hl : (0 ≤ σ 78 l ∧ σ 78 l < 7) ∧ 0 ≤ σ 79 l ∧ σ 79 l < 7 := hab l g0.1 (by omega)
              refine aw_iload_n G dX10_haveSides_65 rfl ?_
              refine aw_aload_n G dX10_haveSides_66 rfl ?_
              refine gf_X10_20 G dX10_haveSides_67 (kk := ?_)
              refine aw_iload_n G dX10_haveSides_70 rfl ?_
              refine aw_iaload G dX10_haveSides_71 (by first | decide | assumption | omega) (by first | rfl | assumption) (by first | decide | assumption) (by omega) ?_
              rw [f78]
              refine aw_ishr G dX10_haveSides_72 ?_
              refine aw_iconst G dX10_haveSides_73 ?_
              refine aw_iand G dX10_haveSides_74 ?_
              refine aw_iconst G dX10_haveSides_75 ?_
              rw [bit_1 (x := T) (a := σ 78 l) (by omega) (by omega)]
              refine aw_icmp_ne (tgt := 83) G dX10_haveSides_76 (by decide) (bP_R _) (by decide) (fun c76 => ?_) (fun c76 => ?_)
              · refine aw_iconst G dX10_haveSides_83 ?_
                refine aw_istore_4 G dX10_haveSides_84 (hc := by first | rfl | assumption) (k := ?_)
                refine aw_iload_n G dX10_haveSides_86 rfl ?_
                refine aw_aload_n G dX10_haveSides_87 rfl ?_
                refine gf_X10_23 G dX10_haveSides_88 (kk := ?_)
                refine aw_iload_n G dX10_haveSides_91 rfl ?_
                refine aw_iaload G dX10_haveSides_92 (by first | decide | assumption | omega) (by first | rfl | assumption) (by first | decide | assumption) (by omega) ?_
                rw [f79]
                refine aw_ishr G dX10_haveSides_93 ?_
                refine aw_iconst G dX10_haveSides_94 ?_
                refine aw_iand G dX10_haveSides_95 ?_
                refine aw_iconst G dX10_haveSides_96 ?_
                rw [bit_1 (x := T) (a := σ 79 l) (by omega) (by omega)]
                refine aw_icmp_ne (tgt := 104) G dX10_haveSides_97 (by decide) (bP_R _) (by decide) (fun c97 => ?_) (fun c97 => ?_)
                · refine aw_iconst G dX10_haveSides_104 ?_
                  refine aw_istore_5 G dX10_haveSides_105 (hc := by first | rfl | assumption) (k := ?_)
                  refine aw_iload G dX10_haveSides_107 rfl ?_
                  refine aw_if_eq (tgt := 168) G dX10_haveSides_109 (by decide) (by decide) (fun c109 => ?_) (fun c109 => ?_)
                  · refine aw_iload G dX10_haveSides_168 rfl ?_
                    refine aw_if_eq (tgt := 226) G dX10_haveSides_170 (by decide) (by decide) (fun c170 => ?_) (fun c170 => ?_)
                    · refine aw_iinc_3 G dX10_haveSides_226 rfl (hc := by first | rfl | assumption) (k := ?_)
                      refine aw_goto (tgt := 57) G dX10_haveSides_229 (by decide) ?_
                      exact ih1 (l + 1) T S _ _ (by omega) (by omega) hTS (rtn_n hRT ⟨fun z => absurd z (bP_no c76), fun z => absurd z (bP_no c97)⟩)
                    · exact absurd rfl c170
                  · exact absurd rfl c109
                · refine aw_iconst G dX10_haveSides_100 ?_
                  refine aw_goto (tgt := 105) G dX10_haveSides_101 (by decide) ?_
                  refine aw_istore_5 G dX10_haveSides_105 (hc := by first | rfl | assumption) (k := ?_)
                  refine aw_iload G dX10_haveSides_107 rfl ?_
                  refine aw_if_eq (tgt := 168) G dX10_haveSides_109 (by decide) (by decide) (fun c109 => ?_) (fun c109 => ?_)
                  · refine aw_iload G dX10_haveSides_168 rfl ?_
                    refine aw_if_eq (tgt := 226) G dX10_haveSides_170 (by decide) (by decide) (fun c170 => ?_) (fun c170 => ?_)
                    · exact absurd c170 (by decide)
                    · refine aw_iload G dX10_haveSides_173 rfl ?_
                      refine aw_if_ne (tgt := 226) G dX10_haveSides_175 (by decide) (by decide) (fun c175 => ?_) (fun c175 => ?_)
                      · exact absurd rfl c175
                      · refine aw_aload_n G dX10_haveSides_178 rfl ?_
                        refine aw_dup G dX10_haveSides_179 (k := ?_)
                        refine gf_X10_236 G dX10_haveSides_180 (kk := ?_)
                        rw [up_at]
                        refine aw_aload_n G dX10_haveSides_183 rfl ?_
                        refine gf_X10_236 G dX10_haveSides_184 (kk := ?_)
                        rw [up_at]
                        refine aw_aload_n G dX10_haveSides_187 rfl ?_
                        refine gf_X10_23 G dX10_haveSides_188 (kk := ?_)
                        refine aw_iload_n G dX10_haveSides_191 rfl ?_
                        refine aw_iaload G dX10_haveSides_192 (by first | decide | assumption | omega) (by first | rfl | assumption) (by first | decide | assumption) (by omega) ?_
                        rw [f79]
                        refine aw_ishr G dX10_haveSides_193 ?_
                        refine aw_iconst G dX10_haveSides_194 ?_
                        refine aw_iand G dX10_haveSides_195 ?_
                        rw [bit_1 (x := S) (a := σ 79 l) (by omega) (by omega)]
                        refine aw_if_ne (tgt := 210) G dX10_haveSides_196 (by decide) (bP_R _) (fun c196 => ?_) (fun c196 => ?_)
                        · have hcb : bit S (σ 79 l) := by
                            by_cases z : bit S (σ 79 l)
                            · exact z
                            · exact absurd (bP_f z) c196
                          refine aw_iconst G dX10_haveSides_210 ?_
                          refine aw_ior G dX10_haveSides_211 ?_
                          refine pf_X10_236 G dX10_haveSides_212 (kk := ?_)
                          rw [up_up]
                          refine aw_iload_n G dX10_haveSides_215 rfl ?_
                          refine aw_iconst G dX10_haveSides_216 ?_
                          refine aw_aload_n G dX10_haveSides_217 rfl ?_
                          refine gf_X10_20 G dX10_haveSides_218 (kk := ?_)
                          refine aw_iload_n G dX10_haveSides_221 rfl ?_
                          refine aw_iaload G dX10_haveSides_222 (by first | decide | assumption | omega) (by first | rfl | assumption) (by first | decide | assumption) (by omega) ?_
                          rw [f78]
                          refine aw_ishl G dX10_haveSides_223 ?_
                          refine aw_ior G dX10_haveSides_224 ?_
                          refine aw_istore_1 G dX10_haveSides_225 (hc := by first | rfl | assumption) (k := ?_)
                          refine aw_iinc_3 G dX10_haveSides_226 rfl (hc := by first | rfl | assumption) (k := ?_)
                          refine aw_goto (tgt := 57) G dX10_haveSides_229 (by decide) ?_
                          exact ih1 (l + 1) (ior T (ishl 1 (σ 78 l))) (ior S 0) _ _ (by omega) (by omega) (ts_step (c := σ 79 l) (d := σ 78 l) hTS (by omega) (by have := habN l g0.1 (by omega); have : σ 78 l < σ 75 0 ∧ σ 79 l < σ 75 0 := ⟨this.1.2, this.2.2⟩; omega) (fun r n z => (wk_1 (a := σ 78) (b := σ 79) g0.1 (by omega)).2 z) (bP_y c97) (bP_no c76) (Or.inl ⟨hcb, rfl⟩)) (rt_y (c := σ 79 l) (d := σ 78 l) hRT g0.1 (by omega) hTS.1 (by omega) (Or.inr ⟨rfl, rfl⟩) (bP_y c97) (bP_no c76))
                        · have hcb : ¬ bit S (σ 79 l) := fun z => by rw [bP_t z] at c196; omega
                          refine aw_iconst G dX10_haveSides_199 ?_
                          refine aw_aload_n G dX10_haveSides_200 rfl ?_
                          refine gf_X10_20 G dX10_haveSides_201 (kk := ?_)
                          refine aw_iload_n G dX10_haveSides_204 rfl ?_
                          refine aw_iaload G dX10_haveSides_205 (by first | decide | assumption | omega) (by first | rfl | assumption) (by first | decide | assumption) (by omega) ?_
                          rw [f78]
                          refine aw_ishl G dX10_haveSides_206 ?_
                          refine aw_goto (tgt := 211) G dX10_haveSides_207 (by decide) ?_
                          refine aw_ior G dX10_haveSides_211 ?_
                          refine pf_X10_236 G dX10_haveSides_212 (kk := ?_)
                          rw [up_up]
                          refine aw_iload_n G dX10_haveSides_215 rfl ?_
                          refine aw_iconst G dX10_haveSides_216 ?_
                          refine aw_aload_n G dX10_haveSides_217 rfl ?_
                          refine gf_X10_20 G dX10_haveSides_218 (kk := ?_)
                          refine aw_iload_n G dX10_haveSides_221 rfl ?_
                          refine aw_iaload G dX10_haveSides_222 (by first | decide | assumption | omega) (by first | rfl | assumption) (by first | decide | assumption) (by omega) ?_
                          rw [f78]
                          refine aw_ishl G dX10_haveSides_223 ?_
                          refine aw_ior G dX10_haveSides_224 ?_
                          refine aw_istore_1 G dX10_haveSides_225 (hc := by first | rfl | assumption) (k := ?_)
                          refine aw_iinc_3 G dX10_haveSides_226 rfl (hc := by first | rfl | assumption) (k := ?_)
                          refine aw_goto (tgt := 57) G dX10_haveSides_229 (by decide) ?_
                          exact ih1 (l + 1) (ior T (ishl 1 (σ 78 l))) (ior S (ishl 1 (σ 78 l))) _ _ (by omega) (by omega) (ts_step (c := σ 79 l) (d := σ 78 l) hTS (by omega) (by have := habN l g0.1 (by omega); have : σ 78 l < σ 75 0 ∧ σ 79 l < σ 75 0 := ⟨this.1.2, this.2.2⟩; omega) (fun r n z => (wk_1 (a := σ 78) (b := σ 79) g0.1 (by omega)).2 z) (bP_y c97) (bP_no c76) (Or.inr ⟨hcb, rfl⟩)) (rt_y (c := σ 79 l) (d := σ 78 l) hRT g0.1 (by omega) hTS.1 (by omega) (Or.inr ⟨rfl, rfl⟩) (bP_y c97) (bP_no c76))
                  · exact absurd rfl c109
              · refine aw_iconst G dX10_haveSides_79 ?_
                refine aw_goto (tgt := 84) G dX10_haveSides_80 (by decide) ?_
                refine aw_istore_4 G dX10_haveSides_84 (hc := by first | rfl | assumption) (k := ?_)
                refine aw_iload_n G dX10_haveSides_86 rfl ?_
                refine aw_aload_n G dX10_haveSides_87 rfl ?_
                refine gf_X10_23 G dX10_haveSides_88 (kk := ?_)
                refine aw_iload_n G dX10_haveSides_91 rfl ?_
                refine aw_iaload G dX10_haveSides_92 (by first | decide | assumption | omega) (by first | rfl | assumption) (by first | decide | assumption) (by omega) ?_
                rw [f79]
                refine aw_ishr G dX10_haveSides_93 ?_
                refine aw_iconst G dX10_haveSides_94 ?_
                refine aw_iand G dX10_haveSides_95 ?_
                refine aw_iconst G dX10_haveSides_96 ?_
                rw [bit_1 (x := T) (a := σ 79 l) (by omega) (by omega)]
                refine aw_icmp_ne (tgt := 104) G dX10_haveSides_97 (by decide) (bP_R _) (by decide) (fun c97 => ?_) (fun c97 => ?_)
                · refine aw_iconst G dX10_haveSides_104 ?_
                  refine aw_istore_5 G dX10_haveSides_105 (hc := by first | rfl | assumption) (k := ?_)
                  refine aw_iload G dX10_haveSides_107 rfl ?_
                  refine aw_if_eq (tgt := 168) G dX10_haveSides_109 (by decide) (by decide) (fun c109 => ?_) (fun c109 => ?_)
                  · exact absurd c109 (by decide)
                  · refine aw_iload G dX10_haveSides_112 rfl ?_
                    refine aw_if_ne (tgt := 168) G dX10_haveSides_114 (by decide) (by decide) (fun c114 => ?_) (fun c114 => ?_)
                    · exact absurd rfl c114
                    · refine aw_aload_n G dX10_haveSides_117 rfl ?_
                      refine aw_dup G dX10_haveSides_118 (k := ?_)
                      refine gf_X10_236 G dX10_haveSides_119 (kk := ?_)
                      rw [up_at]
                      refine aw_aload_n G dX10_haveSides_122 rfl ?_
                      refine gf_X10_236 G dX10_haveSides_123 (kk := ?_)
                      rw [up_at]
                      refine aw_aload_n G dX10_haveSides_126 rfl ?_
                      refine gf_X10_20 G dX10_haveSides_127 (kk := ?_)
                      refine aw_iload_n G dX10_haveSides_130 rfl ?_
                      refine aw_iaload G dX10_haveSides_131 (by first | decide | assumption | omega) (by first | rfl | assumption) (by first | decide | assumption) (by omega) ?_
                      rw [f78]
                      refine aw_ishr G dX10_haveSides_132 ?_
                      refine aw_iconst G dX10_haveSides_133 ?_
                      refine aw_iand G dX10_haveSides_134 ?_
                      rw [bit_1 (x := S) (a := σ 78 l) (by omega) (by omega)]
                      refine aw_if_ne (tgt := 149) G dX10_haveSides_135 (by decide) (bP_R _) (fun c135 => ?_) (fun c135 => ?_)
                      · have hcb : bit S (σ 78 l) := by
                          by_cases z : bit S (σ 78 l)
                          · exact z
                          · exact absurd (bP_f z) c135
                        refine aw_iconst G dX10_haveSides_149 ?_
                        refine aw_ior G dX10_haveSides_150 ?_
                        refine pf_X10_236 G dX10_haveSides_151 (kk := ?_)
                        rw [up_up]
                        refine aw_iload_n G dX10_haveSides_154 rfl ?_
                        refine aw_iconst G dX10_haveSides_155 ?_
                        refine aw_aload_n G dX10_haveSides_156 rfl ?_
                        refine gf_X10_23 G dX10_haveSides_157 (kk := ?_)
                        refine aw_iload_n G dX10_haveSides_160 rfl ?_
                        try rw [f79]
                        refine aw_iaload G dX10_haveSides_161 (by first | decide | assumption | omega) (by first | rfl | assumption) (by first | decide | assumption) (by omega) ?_
                        rw [f79]
                        refine aw_ishl G dX10_haveSides_162 ?_
                        refine aw_ior G dX10_haveSides_163 ?_
                        refine aw_istore_1 G dX10_haveSides_164 (hc := by first | rfl | assumption) (k := ?_)
                        refine aw_goto (tgt := 226) G dX10_haveSides_165 (by decide) ?_
                        refine aw_iinc_3 G dX10_haveSides_226 rfl (hc := by first | rfl | assumption) (k := ?_)
                        refine aw_goto (tgt := 57) G dX10_haveSides_229 (by decide) ?_
                        exact ih1 (l + 1) (ior T (ishl 1 (σ 79 l))) (ior S 0) _ _ (by omega) (by omega) (ts_step (c := σ 78 l) (d := σ 79 l) hTS (by omega) (by have := habN l g0.1 (by omega); have : σ 78 l < σ 75 0 ∧ σ 79 l < σ 75 0 := ⟨this.1.2, this.2.2⟩; omega) (fun r n z => (wk_1 (a := σ 78) (b := σ 79) g0.1 (by omega)).1 z) (bP_y c76) (bP_no c97) (Or.inl ⟨hcb, rfl⟩)) (rt_y (c := σ 78 l) (d := σ 79 l) hRT g0.1 (by omega) hTS.1 (by omega) (Or.inl ⟨rfl, rfl⟩) (bP_y c76) (bP_no c97))
                      · have hcb : ¬ bit S (σ 78 l) := fun z => by rw [bP_t z] at c135; omega
                        refine aw_iconst G dX10_haveSides_138 ?_
                        refine aw_aload_n G dX10_haveSides_139 rfl ?_
                        refine gf_X10_23 G dX10_haveSides_140 (kk := ?_)
                        refine aw_iload_n G dX10_haveSides_143 rfl ?_
                        refine aw_iaload G dX10_haveSides_144 (by first | decide | assumption | omega) (by first | rfl | assumption) (by first | decide | assumption) (by omega) ?_
                        rw [f79]
                        refine aw_ishl G dX10_haveSides_145 ?_
                        refine aw_goto (tgt := 150) G dX10_haveSides_146 (by decide) ?_
                        refine aw_ior G dX10_haveSides_150 ?_
                        refine pf_X10_236 G dX10_haveSides_151 (kk := ?_)
                        rw [up_up]
                        refine aw_iload_n G dX10_haveSides_154 rfl ?_
                        refine aw_iconst G dX10_haveSides_155 ?_
                        refine aw_aload_n G dX10_haveSides_156 rfl ?_
                        refine gf_X10_23 G dX10_haveSides_157 (kk := ?_)
                        refine aw_iload_n G dX10_haveSides_160 rfl ?_
                        refine aw_iaload G dX10_haveSides_161 (by first | decide | assumption | omega) (by first | rfl | assumption) (by first | decide | assumption) (by omega) ?_
                        rw [f79]
                        refine aw_ishl G dX10_haveSides_162 ?_
                        refine aw_ior G dX10_haveSides_163 ?_
                        refine aw_istore_1 G dX10_haveSides_164 (hc := by first | rfl | assumption) (k := ?_)
                        refine aw_goto (tgt := 226) G dX10_haveSides_165 (by decide) ?_
                        refine aw_iinc_3 G dX10_haveSides_226 rfl (hc := by first | rfl | assumption) (k := ?_)
                        refine aw_goto (tgt := 57) G dX10_haveSides_229 (by decide) ?_
                        exact ih1 (l + 1) (ior T (ishl 1 (σ 79 l))) (ior S (ishl 1 (σ 79 l))) _ _ (by omega) (by omega) (ts_step (c := σ 78 l) (d := σ 79 l) hTS (by omega) (by have := habN l g0.1 (by omega); have : σ 78 l < σ 75 0 ∧ σ 79 l < σ 75 0 := ⟨this.1.2, this.2.2⟩; omega) (fun r n z => (wk_1 (a := σ 78) (b := σ 79) g0.1 (by omega)).1 z) (bP_y c76) (bP_no c97) (Or.inr ⟨hcb, rfl⟩)) (rt_y (c := σ 78 l) (d := σ 79 l) hRT g0.1 (by omega) hTS.1 (by omega) (Or.inl ⟨rfl, rfl⟩) (bP_y c76) (bP_no c97))
                · refine aw_iconst G dX10_haveSides_100 ?_
                  refine aw_goto (tgt := 105) G dX10_haveSides_101 (by decide) ?_
                  refine aw_istore_5 G dX10_haveSides_105 (hc := by first | rfl | assumption) (k := ?_)
                  refine aw_iload G dX10_haveSides_107 rfl ?_
                  refine aw_if_eq (tgt := 168) G dX10_haveSides_109 (by decide) (by decide) (fun c109 => ?_) (fun c109 => ?_)
                  · exact absurd c109 (by decide)
                  · refine aw_iload G dX10_haveSides_112 rfl ?_
                    refine aw_if_ne (tgt := 168) G dX10_haveSides_114 (by decide) (by decide) (fun c114 => ?_) (fun c114 => ?_)
                    · refine aw_iload G dX10_haveSides_168 rfl ?_
                      refine aw_if_eq (tgt := 226) G dX10_haveSides_170 (by decide) (by decide) (fun c170 => ?_) (fun c170 => ?_)
                      · exact absurd c170 (by decide)
                      · refine aw_iload G dX10_haveSides_173 rfl ?_
                        refine aw_if_ne (tgt := 226) G dX10_haveSides_175 (by decide) (by decide) (fun c175 => ?_) (fun c175 => ?_)
                        · refine aw_iinc_3 G dX10_haveSides_226 rfl (hc := by first | rfl | assumption) (k := ?_)
                          refine aw_goto (tgt := 57) G dX10_haveSides_229 (by decide) ?_
                          exact ih1 (l + 1) T S _ _ (by omega) (by omega) hTS (rtn_n hRT ⟨fun _ => (bP_y c97), fun _ => (bP_y c76)⟩)
                        · exact absurd c175 (by decide)
                    · exact absurd c114 (by decide)
        exact inner ((σ 75 1).toNat + 1) 0 T0 S0 _ _ (by omega) (by omega) hTS0 (rt_0 T0)
  have least : ∀ (n0 : Nat) (q : Int) (T : Int) (u3 : Option Value) (u4 : Option Value) (u5 : Option Value), (0 ≤ q ∧ q ≤ σ 75 0) → (σ 75 0 < q + (n0 : Int)) → (0 ≤ T ∧ T < 128) → (∀ i : Int, 0 ≤ i → (bit T i ↔ i < q ∧ lst (σ 75 1) (σ 78) (σ 79) i)) → AW X V (up σ 75 22 0) 9 [] [some (rv V 75), some (iv T), some (iv q), u3, u4, u5] := by
    intro n0
    induction n0 with
    | zero =>
      intro q T u3 u4 u5 h0 h1 hT hq
      exfalso
      omega
    | succ n0 ih =>
      intro q T u3 u4 u5 h0 h1 hT hq
      refine aw_iload_n G dX10_haveSides_9 rfl ?_
      refine aw_aload_n G dX10_haveSides_10 rfl ?_
      refine gf_X10_7 G dX10_haveSides_11 (kk := ?_)
      rw [f0]
      refine aw_icmp_ge (tgt := 45) G dX10_haveSides_14 (by decide) (by first | omega | exact b01_R _ | exact bP_R _) (by first | omega | exact b01_R _ | exact bP_R _) (fun c14 => ?_) (fun c14 => ?_)
      · refine aw_iconst G dX10_haveSides_45 ?_
        refine aw_istore_2 G dX10_haveSides_46 (hc := by first | rfl | assumption) (k := ?_)
        have hqe : q = σ 75 0 := by omega
        rw [hqe] at hq
        have hl0 : bit T 0 := (hq 0 (by decide)).mpr ⟨by omega, fun i i0 i1 => by omega⟩
        exact rounds ((σ 75 0).toNat + 1) 0 T 0 _ _ _ (by omega) (by omega) (ts_0 hT hq) (Or.inr (pc_1 (by decide) hl0 7 (by decide)))
      · refine aw_iload_n G dX10_haveSides_17 rfl ?_
        refine aw_aload_n G dX10_haveSides_18 rfl ?_
        refine aw_iload_n G dX10_haveSides_19 rfl ?_
        refine cv_X10_233 G dX10_haveSides_20 (c_X10_partOf (OK_22 hN) (by omega)) (kk := fun r20 t20 h20 => ?_)
        obtain ⟨rfl, ee20⟩ := h20
        obtain rfl := ee20.symm
        rw [f1, f78, f79]
        refine aw_iconst G dX10_haveSides_23 ?_
        refine aw_iload_n G dX10_haveSides_24 rfl ?_
        refine aw_ishl G dX10_haveSides_25 ?_
        refine aw_irem G dX10_haveSides_26 (by have := part_R (L := σ 75 1) (a := σ 78) (b := σ 79) (p := q); omega) (by have := ishl_R (a := q) (by omega); omega) ?_
        refine aw_if_ne (tgt := 36) G dX10_haveSides_27 (by decide) (tm_R part_R) (fun c27 => ?_) (fun c27 => ?_)
        · refine aw_iconst G dX10_haveSides_36 ?_
          refine aw_ior G dX10_haveSides_37 ?_
          refine aw_istore_1 G dX10_haveSides_38 (hc := by first | rfl | assumption) (k := ?_)
          refine aw_iinc_2 G dX10_haveSides_39 rfl (hc := by first | rfl | assumption) (k := ?_)
          refine aw_goto (tgt := 9) G dX10_haveSides_42 (by decide) ?_
          have hq1 := shl_R1 (c := q) (by omega)
          first
            | (rw [ior_0 (by omega)]
               refine ih (q + 1) T _ _ _ (by omega) (by omega) hT (fun i i0 => ?_)
               rw [hq i i0]
               refine ⟨fun z => ⟨by omega, z.2⟩, fun z => ⟨?_, z.2⟩⟩
               by_cases e : i = q
               · rw [e] at z
                 exact absurd ((lst_e (by omega)).mpr z.2) c27
               · omega)
            | (refine ih (q + 1) _ _ _ _ (by omega) (by omega) (ior_R1 hT hq1) (fun i i0 => ?_)
               rw [bit_or (by omega) (by omega), bit_l (by omega) i0, hq i i0]
               have hlq := (lst_e (L := σ 75 1) (a := σ 78) (b := σ 79) (q := q) (by omega)).mp c27
               constructor
               · intro z
                 rcases z with z | z
                 · exact ⟨by omega, z.2⟩
                 · rw [z]
                   exact ⟨by omega, hlq⟩
               · intro z
                 by_cases e : i = q
                 · exact Or.inr e
                 · exact Or.inl ⟨by omega, z.2⟩)
        · refine aw_iconst G dX10_haveSides_30 ?_
          refine aw_iload_n G dX10_haveSides_31 rfl ?_
          refine aw_ishl G dX10_haveSides_32 ?_
          refine aw_goto (tgt := 37) G dX10_haveSides_33 (by decide) ?_
          refine aw_ior G dX10_haveSides_37 ?_
          refine aw_istore_1 G dX10_haveSides_38 (hc := by first | rfl | assumption) (k := ?_)
          refine aw_iinc_2 G dX10_haveSides_39 rfl (hc := by first | rfl | assumption) (k := ?_)
          refine aw_goto (tgt := 9) G dX10_haveSides_42 (by decide) ?_
          have hq1 := shl_R1 (c := q) (by omega)
          first
            | (rw [ior_0 (by omega)]
               refine ih (q + 1) T _ _ _ (by omega) (by omega) hT (fun i i0 => ?_)
               rw [hq i i0]
               refine ⟨fun z => ⟨by omega, z.2⟩, fun z => ⟨?_, z.2⟩⟩
               by_cases e : i = q
               · rw [e] at z
                 exact absurd ((lst_e (by omega)).mpr z.2) c27
               · omega)
            | (refine ih (q + 1) _ _ _ _ (by omega) (by omega) (ior_R1 hT hq1) (fun i i0 => ?_)
               rw [bit_or (by omega) (by omega), bit_l (by omega) i0, hq i i0]
               have hlq := (lst_e (L := σ 75 1) (a := σ 78) (b := σ 79) (q := q) (by omega)).mp c27
               constructor
               · intro z
                 rcases z with z | z
                 · exact ⟨by omega, z.2⟩
                 · rw [z]
                   exact ⟨by omega, hlq⟩
               · intro z
                 by_cases e : i = q
                 · exact Or.inr e
                 · exact Or.inl ⟨by omega, z.2⟩)
  refine aw_aload_n G dX10_haveSides_0 rfl ?_
  refine aw_iconst G dX10_haveSides_1 ?_
  refine pf_X10_236 G dX10_haveSides_2 (kk := ?_)
  refine aw_iconst G dX10_haveSides_5 ?_
  refine aw_istore_1 G dX10_haveSides_6 (hc := by first | rfl | assumption) (k := ?_)
  refine aw_iconst G dX10_haveSides_7 ?_
  refine aw_istore_2 G dX10_haveSides_8 (hc := by first | rfl | assumption) (k := ?_)
  exact least ((σ 75 0).toNat + 1) 0 0 _ _ _ (by omega) (by omega) (by omega) (fun i i0 => ⟨fun z => absurd z (bit_0 i), fun z => by omega⟩)
set_option maxHeartbeats 4000000 in
theorem c_X10_sides {V : Wd} {σ : St} {p : Int} (h1 : inR p) (hk : OK σ) : Ct V yX10_sides cX10_sides 3 (some .int) 2 50 [rv V 75, iv p] σ (PI (fun r τ => r = an_sides σ p ∧ ME τ (nx_sides σ p))) := by
  refine ct_of (by decide) (Nat.le_of_ble_eq_true rfl) (fun X G T => ?_)
  have G : Gd X V cX10_sides RX10 3 2 50 := G
  show AW X V σ 0 [] [some (rv V 75), some (iv p), none]
  obtain ⟨⟨n1, n2, n3, n4, n5, n6⟩, u1, l1, l2, i1, s1, w1⟩ := id hk
  refine aw_iload_n G dX10_sides_0 rfl ?_
  refine aw_iconst G dX10_sides_1 ?_
  refine aw_icmp_eq (tgt := 19) G dX10_sides_2 (by decide) (by first | omega | exact b01_R _ | exact bP_R _) (by first | omega | exact b01_R _ | exact bP_R _) (fun c2 => ?_) (fun c2 => ?_)
  · refine aw_aload_n G dX10_sides_19 rfl ?_
    refine cv_X10_239 G dX10_sides_20 (c_X10_haveSides hk.1) (kk := fun r20 t20 h20 => ?_)
    obtain ⟨S, rfl, hS, rfl, hsd⟩ := h20
    refine aw_istore_2 G dX10_sides_23 (hc := by first | rfl | assumption) (k := ?_)
    refine aw_iload_n G dX10_sides_24 rfl ?_
    refine aw_iconst G dX10_sides_25 ?_
    refine aw_icmp_ne (tgt := 39) G dX10_sides_26 (by decide) (by first | omega | exact b01_R _ | exact bP_R _) (by first | omega | exact b01_R _ | exact bP_R _) (fun c26 => ?_) (fun c26 => ?_)
    · refine aw_iload_n G dX10_sides_39 rfl ?_
      refine aw_if_eq (tgt := 54) G dX10_sides_40 (by decide) (bP_R _) (fun c40 => ?_) (fun c40 => ?_)
      · try simp only [b01_0, b01_n, bP_0, bP_n, Classical.not_not] at c40
        refine aw_bipush G dX10_sides_54 (k := ?_)
        exact aw_iret G T dX10_sides_56 (by
    refine ⟨?_, by unfold nx_sides; rw [if_neg (by omega)]; exact ME_22 _ _⟩
    unfold an_sides
    rw [if_neg (by omega)]
    first
      | (rw [if_neg (by omega), if_pos (bP_t c40)]
         by_cases z : bit S p
         · rw [bP_t z, bP_t ((hsd (bP_t c40) p (by omega) (by omega)).mp z)]
         · rw [bP_f z, bP_f (fun y => z ((hsd (bP_t c40) p (by omega) (by omega)).mpr y))])
      | (rw [if_neg (by omega), if_neg (by rw [bP_f c40]; decide)]))
      · try simp only [b01_0, b01_n, bP_0, bP_n, Classical.not_not] at c40
        refine aw_aload_n G dX10_sides_43 rfl ?_
        refine gf_X10_236 G dX10_sides_44 (kk := ?_)
        rw [up_at]
        refine aw_iload_n G dX10_sides_47 rfl ?_
        refine aw_ishr G dX10_sides_48 ?_
        refine aw_iconst G dX10_sides_49 ?_
        refine aw_iand G dX10_sides_50 ?_
        rw [bit_1 (x := S) (a := p) (by omega) (by omega)]
        refine aw_goto (tgt := 56) G dX10_sides_51 (by decide) ?_
        exact aw_iret G T dX10_sides_56 (by
    refine ⟨?_, by unfold nx_sides; rw [if_neg (by omega)]; exact ME_22 _ _⟩
    unfold an_sides
    rw [if_neg (by omega)]
    first
      | (rw [if_neg (by omega), if_pos (bP_t c40)]
         by_cases z : bit S p
         · rw [bP_t z, bP_t ((hsd (bP_t c40) p (by omega) (by omega)).mp z)]
         · rw [bP_f z, bP_f (fun y => z ((hsd (bP_t c40) p (by omega) (by omega)).mpr y))])
      | (rw [if_neg (by omega), if_neg (by rw [bP_f c40]; decide)]))
    · refine aw_iload_n G dX10_sides_29 rfl ?_
      refine aw_if_eq (tgt := 37) G dX10_sides_30 (by decide) (bP_R _) (fun c30 => ?_) (fun c30 => ?_)
      · try simp only [b01_0, b01_n, bP_0, bP_n, Classical.not_not] at c30
        refine aw_iconst G dX10_sides_37 ?_
        exact aw_iret G T dX10_sides_38 (by
    refine ⟨?_, by unfold nx_sides; rw [if_neg (by omega)]; exact ME_22 _ _⟩
    unfold an_sides
    rw [if_neg (by omega)]
    first
      | (rw [if_pos (by omega)]; exact (bP_t c30).symm)
      | (rw [if_pos (by omega)]; exact (bP_f c30).symm))
      · try simp only [b01_0, b01_n, bP_0, bP_n, Classical.not_not] at c30
        refine aw_iconst G dX10_sides_33 ?_
        refine aw_goto (tgt := 38) G dX10_sides_34 (by decide) ?_
        exact aw_iret G T dX10_sides_38 (by
    refine ⟨?_, by unfold nx_sides; rw [if_neg (by omega)]; exact ME_22 _ _⟩
    unfold an_sides
    rw [if_neg (by omega)]
    first
      | (rw [if_pos (by omega)]; exact (bP_t c30).symm)
      | (rw [if_pos (by omega)]; exact (bP_f c30).symm))
  · refine aw_aload_n G dX10_sides_5 rfl ?_
    refine aw_iload_n G dX10_sides_6 rfl ?_
    refine cv_X10_100 G dX10_sides_7 (c_X10_isPoint (by first | assumption | omega) (by omega)) (kk := fun r7 t7 h7 => ?_)
    obtain ⟨rfl, ee7⟩ := h7
    obtain rfl := ee7.symm
    refine aw_if_ne (tgt := 19) G dX10_sides_10 (by decide) (by first | omega | exact b01_R _ | exact bP_R _) (fun c10 => ?_) (fun c10 => ?_)
    · try simp only [b01_0, b01_n, bP_0, bP_n, Classical.not_not] at c10
      refine aw_aload_n G dX10_sides_19 rfl ?_
      refine cv_X10_239 G dX10_sides_20 (c_X10_haveSides hk.1) (kk := fun r20 t20 h20 => ?_)
      obtain ⟨S, rfl, hS, rfl, hsd⟩ := h20
      refine aw_istore_2 G dX10_sides_23 (hc := by first | rfl | assumption) (k := ?_)
      refine aw_iload_n G dX10_sides_24 rfl ?_
      refine aw_iconst G dX10_sides_25 ?_
      refine aw_icmp_ne (tgt := 39) G dX10_sides_26 (by decide) (by first | omega | exact b01_R _ | exact bP_R _) (by first | omega | exact b01_R _ | exact bP_R _) (fun c26 => ?_) (fun c26 => ?_)
      · refine aw_iload_n G dX10_sides_39 rfl ?_
        refine aw_if_eq (tgt := 54) G dX10_sides_40 (by decide) (bP_R _) (fun c40 => ?_) (fun c40 => ?_)
        · try simp only [b01_0, b01_n, bP_0, bP_n, Classical.not_not] at c40
          refine aw_bipush G dX10_sides_54 (k := ?_)
          exact aw_iret G T dX10_sides_56 (by
    refine ⟨?_, by unfold nx_sides; rw [if_neg (by omega)]; exact ME_22 _ _⟩
    unfold an_sides
    rw [if_neg (by omega)]
    first
      | (rw [if_neg (by omega), if_pos (bP_t c40)]
         by_cases z : bit S p
         · rw [bP_t z, bP_t ((hsd (bP_t c40) p (by omega) (by omega)).mp z)]
         · rw [bP_f z, bP_f (fun y => z ((hsd (bP_t c40) p (by omega) (by omega)).mpr y))])
      | (rw [if_neg (by omega), if_neg (by rw [bP_f c40]; decide)]))
        · try simp only [b01_0, b01_n, bP_0, bP_n, Classical.not_not] at c40
          refine aw_aload_n G dX10_sides_43 rfl ?_
          refine gf_X10_236 G dX10_sides_44 (kk := ?_)
          rw [up_at]
          refine aw_iload_n G dX10_sides_47 rfl ?_
          refine aw_ishr G dX10_sides_48 ?_
          refine aw_iconst G dX10_sides_49 ?_
          refine aw_iand G dX10_sides_50 ?_
          rw [bit_1 (x := S) (a := p) (by omega) (by omega)]
          refine aw_goto (tgt := 56) G dX10_sides_51 (by decide) ?_
          exact aw_iret G T dX10_sides_56 (by
    refine ⟨?_, by unfold nx_sides; rw [if_neg (by omega)]; exact ME_22 _ _⟩
    unfold an_sides
    rw [if_neg (by omega)]
    first
      | (rw [if_neg (by omega), if_pos (bP_t c40)]
         by_cases z : bit S p
         · rw [bP_t z, bP_t ((hsd (bP_t c40) p (by omega) (by omega)).mp z)]
         · rw [bP_f z, bP_f (fun y => z ((hsd (bP_t c40) p (by omega) (by omega)).mpr y))])
      | (rw [if_neg (by omega), if_neg (by rw [bP_f c40]; decide)]))
      · refine aw_iload_n G dX10_sides_29 rfl ?_
        refine aw_if_eq (tgt := 37) G dX10_sides_30 (by decide) (bP_R _) (fun c30 => ?_) (fun c30 => ?_)
        · try simp only [b01_0, b01_n, bP_0, bP_n, Classical.not_not] at c30
          refine aw_iconst G dX10_sides_37 ?_
          exact aw_iret G T dX10_sides_38 (by
    refine ⟨?_, by unfold nx_sides; rw [if_neg (by omega)]; exact ME_22 _ _⟩
    unfold an_sides
    rw [if_neg (by omega)]
    first
      | (rw [if_pos (by omega)]; exact (bP_t c30).symm)
      | (rw [if_pos (by omega)]; exact (bP_f c30).symm))
        · try simp only [b01_0, b01_n, bP_0, bP_n, Classical.not_not] at c30
          refine aw_iconst G dX10_sides_33 ?_
          refine aw_goto (tgt := 38) G dX10_sides_34 (by decide) ?_
          exact aw_iret G T dX10_sides_38 (by
    refine ⟨?_, by unfold nx_sides; rw [if_neg (by omega)]; exact ME_22 _ _⟩
    unfold an_sides
    rw [if_neg (by omega)]
    first
      | (rw [if_pos (by omega)]; exact (bP_t c30).symm)
      | (rw [if_pos (by omega)]; exact (bP_f c30).symm))
    · try simp only [b01_0, b01_n, bP_0, bP_n, Classical.not_not] at c10
      refine aw_aload_n G dX10_sides_13 rfl ?_
      refine aw_iconst G dX10_sides_14 ?_
      refine cv_X10_87 G dX10_sides_15 (c_X10_refused (by decide)) (kk := fun r15 t15 h15 => ?_)
      obtain ⟨rfl, ee15⟩ := h15
      obtain rfl := ee15.symm
      exact aw_iret G T dX10_sides_18 (⟨by unfold an_sides; rw [if_pos (by omega)], by unfold nx_sides; rw [if_pos (by omega)]; exact ME.rf _⟩)

