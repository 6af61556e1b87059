def upf (f : Int → Int) (l v : Int) : Int → Int := fun j => if j = l then v else f j
theorem upf_at (f : Int → Int) (l v : Int) : upf f l v l = v := if_pos rfl
theorem upf_o {f : Int → Int} {l v j : Int} (h : j ≠ l) : upf f l v j = f j := if_neg h
/-- labels and those behind them, none above k; behind the last come the first -/
def nxT (k : Int) : Nat → (Int → Int) → Int → Int
  | 0, f => f
  | m + 1, f => if f m < k then upf f m (f m + 1) else nxT k m (upf f m 0)
theorem nxT_s (k : Int) (m : Nat) (f : Int → Int) : nxT k (m + 1) f = if f m < k then upf f m (f m + 1) else nxT k m (upf f m 0) := rfl
/-- of so many, each behind the other: how many are so -/
noncomputable def wayN (Q : (Int → Int) → Prop) (s : (Int → Int) → Int → Int) : Nat → (Int → Int) → Int
  | 0, _ => 0
  | w + 1, f => bP (Q f) + wayN Q s w (s f)
noncomputable def wayI (Q : (Int → Int) → Prop) (s : (Int → Int) → Int → Int) : Nat → (Int → Int) → Int → Option (Int → Int)
  | 0, _, _ => none
  | w + 1, f, i => if bP (Q f) = 1 then (if i = 0 then some f else wayI Q s w (s f) (i - 1)) else wayI Q s w (s f) i
theorem wayN_s (Q : (Int → Int) → Prop) (s : (Int → Int) → Int → Int) (w : Nat) (f : Int → Int) : wayN Q s (w + 1) f = bP (Q f) + wayN Q s w (s f) := rfl
theorem wayI_s (Q : (Int → Int) → Prop) (s : (Int → Int) → Int → Int) (w : Nat) (f : Int → Int) (i : Int) : wayI Q s (w + 1) f i = if bP (Q f) = 1 then (if i = 0 then some f else wayI Q s w (s f) (i - 1)) else wayI Q s w (s f) i := rfl
theorem wayN_R (Q : (Int → Int) → Prop) (s : (Int → Int) → Int → Int) : ∀ (w : Nat) (f : Int → Int), 0 ≤ wayN Q s w f ∧ wayN Q s w f ≤ w
  | 0, f => by unfold wayN; omega
  | w + 1, f => by
    have h := wayN_R Q s w (s f)
    have h2 := bP_01 (Q f)
    rw [wayN_s]
    omega
theorem wayI_n (Q : (Int → Int) → Prop) (s : (Int → Int) → Int → Int) : ∀ (w : Nat) (f : Int → Int) (i : Int), 0 ≤ i → (wayI Q s w f i = none ↔ wayN Q s w f ≤ i)
  | 0, f, i, h => by unfold wayI wayN; simp; exact h
  | w + 1, f, i, h => by
    rw [wayI_s, wayN_s]
    have hb := bP_01 (Q f)
    have hr := wayN_R Q s w (s f)
    by_cases e : bP (Q f) = 1
    · rw [if_pos e]
      by_cases z : i = 0
      · rw [if_pos z]
        constructor
        · intro q; cases q
        · intro q; omega
      · rw [if_neg z, wayI_n Q s w (s f) (i - 1) (by omega)]
        omega
    · rw [if_neg e, wayI_n Q s w (s f) i h]
      omega
theorem wayN_c {Q Q' : (Int → Int) → Prop} {s : (Int → Int) → Int → Int} (h : ∀ f, Q f ↔ Q' f) (w : Nat) (f : Int → Int) : wayN Q s w f = wayN Q' s w f := by
  rw [show Q = Q' from funext fun f => propext (h f)]
def pw (b : Int) : Nat → Int
  | 0 => 1
  | n + 1 => pw b n * b
theorem pw_s (b : Int) (n : Nat) : pw b (n + 1) = pw b n * b := rfl
theorem pw_R {b : Int} (hb : 1 ≤ b ∧ b ≤ 7) : ∀ n : Nat, 1 ≤ pw b n ∧ pw b n ≤ 7 ^ n
  | 0 => by unfold pw; decide
  | n + 1 => by
    have h := pw_R hb n
    rw [pw_s, Int.pow_succ]
    refine ⟨?_, Int.mul_le_mul h.2 hb.2 (by omega) (by omega)⟩
    have := Int.mul_le_mul h.1 hb.1 (by omega) (by omega)
    omega
theorem pw_4 {b : Int} (hb : 1 ≤ b ∧ b ≤ 4) : ∀ n : Nat, 1 ≤ pw b n ∧ pw b n ≤ 4 ^ n
  | 0 => by unfold pw; decide
  | n + 1 => by
    have h := pw_4 hb n
    rw [pw_s, Int.pow_succ]
    refine ⟨?_, Int.mul_le_mul h.2 hb.2 (by omega) (by omega)⟩
    have := Int.mul_le_mul h.1 hb.1 (by omega) (by omega)
    omega
theorem pw_48 {b : Int} (hb : 1 ≤ b ∧ b ≤ 4) {n : Nat} (hn : n ≤ 8) : 1 ≤ pw b n ∧ pw b n ≤ 65536 := by
  have h := pw_4 hb n
  have : ((4 : Int) ^ n) ≤ 65536 := by
    rcases (show n = 0 ∨ n = 1 ∨ n = 2 ∨ n = 3 ∨ n = 4 ∨ n = 5 ∨ n = 6 ∨ n = 7 ∨ n = 8 by omega) with e | e | e | e | e | e | e | e | e <;> rw [e] <;> decide
  omega
theorem nxT_o (k : Int) : ∀ (m : Nat) (f : Int → Int) (j : Int), ¬ (0 ≤ j ∧ j < m) → nxT k m f j = f j
  | 0, f, j, _ => rfl
  | m + 1, f, j, h => by
    rw [nxT_s]
    by_cases c : f m < k
    · rw [if_pos c, upf_o (by omega)]
    · rw [if_neg c, nxT_o k m _ j (by omega), upf_o (by omega)]
theorem nxT_R {k : Int} (hk : 0 ≤ k) : ∀ (m : Nat) (f : Int → Int), (∀ j : Int, 0 ≤ f j ∧ f j ≤ k) → ∀ j : Int, 0 ≤ nxT k m f j ∧ nxT k m f j ≤ k
  | 0, f, h => h
  | m + 1, f, h => by
    rw [nxT_s]
    have hm := h m
    by_cases c : f m < k
    · rw [if_pos c]
      intro j
      have hj := h j
      unfold upf
      split <;> omega
    · rw [if_neg c]
      refine nxT_R hk m _ fun j => ?_
      have hj := h j
      unfold upf
      split <;> omega
def valF (b : Int) (f : Int → Int) : Nat → Int
  | 0 => 0
  | m + 1 => b * valF b f m + f m
theorem valF_s (b : Int) (f : Int → Int) (m : Nat) : valF b f (m + 1) = b * valF b f m + f m := rfl
theorem valF_c {b : Int} {f g : Int → Int} : ∀ {m : Nat}, (∀ j : Int, 0 ≤ j → j < m → f j = g j) → valF b f m = valF b g m
  | 0, _ => rfl
  | m + 1, h => by
    rw [valF_s, valF_s, valF_c (m := m) (fun j a c => h j a (by omega)), h m (by omega) (by omega)]
theorem valF_0 (b : Int) : ∀ m : Nat, valF b (fun _ => 0) m = 0
  | 0 => rfl
  | m + 1 => by rw [valF_s, valF_0 b m]; simp
theorem nxT_v {k : Int} (hk : 0 ≤ k) : ∀ (m : Nat) (f : Int → Int), (∀ j : Int, 0 ≤ f j ∧ f j ≤ k) → (valF (k + 1) f m + 1 < pw (k + 1) m ∧ valF (k + 1) (nxT k m f) m = valF (k + 1) f m + 1 ∧ ∃ j : Int, 0 ≤ j ∧ j < m ∧ f j < k) ∨ (valF (k + 1) f m + 1 = pw (k + 1) m ∧ ∀ j : Int, 0 ≤ j → j < m → f j = k)
  | 0, f, h => Or.inr ⟨rfl, fun j a c => by omega⟩
  | m + 1, f, h => by
    have hm := h m
    have hs : (k + 1) * valF (k + 1) f m + (k + 1) = (k + 1) * (valF (k + 1) f m + 1) := by rw [Int.mul_add, Int.mul_one]
    rw [nxT_s, valF_s, valF_s, pw_s, Int.mul_comm (pw (k + 1) m)]
    by_cases c : f m < k
    · rw [if_pos c, upf_at, valF_c (g := f) (fun j a q => upf_o (by omega))]
      refine Or.inl ⟨?_, by omega, m, by omega, by omega, c⟩
      have hle : valF (k + 1) f m + 1 ≤ pw (k + 1) m := by
        rcases nxT_v hk m f h with q | q <;> omega
      have := Int.mul_le_mul_of_nonneg_left hle (show 0 ≤ k + 1 by omega)
      omega
    · rw [if_neg c, nxT_o k m _ m (by omega), upf_at]
      have hg : ∀ j : Int, 0 ≤ upf f m 0 j ∧ upf f m 0 j ≤ k := fun j => by
        have hj := h j
        unfold upf
        split <;> omega
      have hc : valF (k + 1) (upf f m 0) m = valF (k + 1) f m := valF_c (fun j a q => upf_o (by omega))
      rcases nxT_v hk m (upf f m 0) hg with ⟨q1, q2, j, q3, q4, q5⟩ | ⟨q1, q2⟩
      · rw [hc] at q1 q2
        rw [q2]
        refine Or.inl ⟨?_, by omega, j, q3, by omega, by rw [upf_o (by omega)] at q5; exact q5⟩
        have := Int.mul_le_mul_of_nonneg_left (show valF (k + 1) f m + 1 + 1 ≤ pw (k + 1) m by omega) (show 0 ≤ k + 1 by omega)
        rw [Int.mul_add, Int.mul_one] at this
        omega
      · rw [hc] at q1
        refine Or.inr ⟨by rw [← q1]; omega, fun j a q => ?_⟩
        by_cases e : j = m
        · rw [e]; omega
        · have := q2 j a (by omega)
          rw [upf_o e] at this
          exact this
theorem tsum_up {W : Int → Int → Int} {f : Int → Int} {L p l v : Int} (hl : 0 ≤ l ∧ l < L) : tsum W (upf f l v) L p = tsum W f L p + (v - f l) * W p l := by
  have key : ∀ n : Nat, sumTo (fun j => W p j * upf f l v j) n = sumTo (fun j => W p j * f j) n + (if l < n then (v - f l) * W p l else 0) := by
    intro n
    induction n with
    | zero => rw [if_neg (by omega)]; rfl
    | succ n ih =>
      rw [sumTo_s, sumTo_s, ih]
      by_cases e : l = n
      · rw [if_neg (by omega), if_pos (by omega), ← e, upf_at, Int.sub_mul, Int.mul_comm v, Int.mul_comm (f l)]
        omega
      · rw [upf_o (fun q => e q.symm)]
        by_cases z : l < n
        · rw [if_pos z, if_pos (by omega)]; omega
        · rw [if_neg z, if_neg (by omega)]; omega
  unfold tsum
  rw [key, if_pos (by omega)]
theorem tsum_R {W : Int → Int → Int} {f : Int → Int} {L p : Int} (hL : L ≤ 8) (h : ∀ l, 0 ≤ l → l < L → (0 ≤ W p l ∧ W p l ≤ 13) ∧ 0 ≤ f l ∧ f l ≤ 1000) : 0 ≤ tsum W f L p ∧ tsum W f L p ≤ 104000 := by
  have key : ∀ n : Nat, (n : Int) ≤ L ∨ n = 0 → 0 ≤ sumTo (fun l => W p l * f l) n ∧ sumTo (fun l => W p l * f l) n ≤ 13000 * n := by
    intro n
    induction n with
    | zero => intro _; unfold sumTo; omega
    | succ n ih =>
      intro hn
      have h1 := ih (by omega)
      have h2 := h n (by omega) (by omega)
      have h3 := Int.mul_le_mul h2.1.2 h2.2.2 h2.2.1 (show (0:Int) ≤ 13 by decide)
      have h4 := Int.mul_nonneg h2.1.1 h2.2.1
      rw [sumTo_s]
      omega
  have := key L.toNat (by omega)
  unfold tsum
  omega
theorem tsum_0 {W : Int → Int → Int} {L p : Int} : tsum W (fun _ => 0) L p = 0 := by
  unfold tsum
  induction L.toNat with
  | zero => rfl
  | succ n ih => rw [sumTo_s, ih]; simp
/-- the class's thought stands at labels f, over the net of ρ -/
abbrev thS : List Nat := [47, 48, 49, 50, 51, 52]
def TH (ρ σ : St) (f : Int → Int) : Prop := Only thS ρ σ ∧ (∀ j : Int, 0 ≤ j → j < ρ 1 1 → σ 48 j = f j ∧ σ 50 j = kforth (ρ 2 j) (ρ 3 j) ∧ σ 51 j = kback (ρ 2 j) (ρ 3 j)) ∧ ∀ p : Int, 0 ≤ p → p < 7 → σ 49 p = tsum (nwt ρ 1) f (ρ 1 1) p
/-- the last lines at points -/
def LastL (ρ σ : St) (i : Int) : Prop := ∀ p : Int, 0 ≤ p → p < 7 → (σ 52 p = -1 ∧ ∀ l, 0 ≤ l → l < i → nwt ρ 1 p l = 0) ∨ (0 ≤ σ 52 p ∧ σ 52 p < i ∧ 0 < nwt ρ 1 p (σ 52 p) ∧ ∀ l, σ 52 p < l → l < i → nwt ρ 1 p l = 0)
set_option maxHeartbeats 4000000 in
theorem c_X7_begin {V : Wd} {σ : St}  (hN : NetOK σ 1) : Ct V yX7_begin cX7_begin 2 none 2 42 [rv V 47] σ (PV (fun τ => TH σ τ (fun _ => 0) ∧ LastL σ τ (σ 1 1) ∧ τ 47 = σ 47)) := by
  refine ct_of (by decide) (Nat.le_of_ble_eq_true rfl) (fun X G T => ?_)
  have G : Gd X V cX7_begin RX7 2 2 42 := G
  show AW X V σ 0 [] [some (rv V 47), none]
  obtain ⟨n1, n2, n3, n4, n5, n6⟩ := id hN
  have two : ∀ (n0 : Nat) (i : Int) (τ : St), (0 ≤ i ∧ i ≤ σ 1 1) → (σ 1 1 < i + (n0 : Int)) → (Only thS σ τ) → (τ 47 = σ 47) → (∀ p : Int, 0 ≤ p → p < 7 → τ 49 p = 0) → (∀ j : Int, 0 ≤ j → j < i → τ 48 j = 0 ∧ τ 50 j = kforth (σ 2 j) (σ 3 j) ∧ τ 51 j = kback (σ 2 j) (σ 3 j)) → (LastL σ τ i) → AW X V (τ) 30 [] [some (rv V 47), some (iv i)] := by
    intro n0
    induction n0 with
    | zero =>
      intro i τ h0 h1 ho h47 hz hj hL
      exfalso
      omega
    | succ n0 ih =>
      intro i τ h0 h1 ho h47 hz hj hL
      have e1 : τ 1 = σ 1 := ho 1 (by decide)
      have e2 : τ 2 = σ 2 := ho 2 (by decide)
      have e3 : τ 3 = σ 3 := ho 3 (by decide)
      have e4 : τ 4 = σ 4 := ho 4 (by decide)
      have e5 : τ 5 = σ 5 := ho 5 (by decide)
      have hR1 : ∀ ξ : St, ξ 2 = σ 2 → ξ 3 = σ 3 → ξ 4 = σ 4 → ξ 5 = σ 5 → ξ 6 = σ 6 → RowOK ξ 1 := fun ξ a b c d e => by
        intro j j0 j1
        show 0 ≤ ξ 2 j ∧ ξ 2 j ≤ 5 ∧ 0 ≤ ξ 3 j ∧ ξ 3 j ≤ 9 ∧ 0 ≤ ξ 4 j ∧ ξ 4 j ≤ 6 ∧ 0 ≤ ξ 5 j ∧ ξ 5 j ≤ 6 ∧ 0 ≤ ξ 6 j ∧ ξ 6 j ≤ 99
        rw [a, b, c, d, e]
        exact n5 j j0 j1
      have e6 : τ 6 = σ 6 := ho 6 (by decide)
      have u48 : ∀ k : Nat, k ≠ 48 → up τ 48 i 0 k = τ k := fun k h => up_ne h
      refine aw_iload_n G dX7_begin_30 rfl ?_
      refine aw_aload_n G dX7_begin_31 rfl ?_
      refine gf_X7_34 G dX7_begin_32 (kk := ?_)
      refine gf_X7_38 G dX7_begin_35 (kk := ?_)
      rw [e1]
      refine aw_icmp_ge (tgt := 130) G dX7_begin_38 (by decide) (by first | omega | exact b01_R _ | exact bP_R _) (by first | omega | exact b01_R _ | exact bP_R _) (fun c38 => ?_) (fun c38 => ?_)
      · exact aw_vret G T dX7_begin_130 (by
          have hi : i = σ 1 1 := by omega
          subst hi
          exact ⟨⟨ho, hj, fun p a b => by rw [hz p a b, tsum_0]⟩, hL, h47⟩)
      · refine aw_aload_n G dX7_begin_41 rfl ?_
        refine gf_X7_9 G dX7_begin_42 (kk := ?_)
        refine aw_iload_n G dX7_begin_45 rfl ?_
        refine aw_iconst G dX7_begin_46 ?_
        refine aw_iastore G dX7_begin_47 (by first | decide | assumption | omega) (by first | rfl | assumption) (by first | decide | assumption) (by omega) ?_
        refine aw_aload_n G dX7_begin_48 rfl ?_
        refine gf_X7_18 G dX7_begin_49 (kk := ?_)
        refine aw_iload_n G dX7_begin_52 rfl ?_
        refine aw_aload_n G dX7_begin_53 rfl ?_
        refine gf_X7_34 G dX7_begin_54 (kk := ?_)
        refine aw_iload_n G dX7_begin_57 rfl ?_
        have hni : 0 ≤ σ 2 i ∧ σ 2 i ≤ 5 ∧ 0 ≤ σ 3 i ∧ σ 3 i ≤ 9 ∧ 0 ≤ σ 4 i ∧ σ 4 i ≤ 6 ∧ 0 ≤ σ 5 i ∧ σ 5 i ≤ 6 ∧ 0 ≤ σ 6 i ∧ σ 6 i ≤ 99 := n5 i h0.1 (by omega)
        have hf := kforth_R (k := σ 2 i) (f := σ 3 i) ⟨hni.2.2.1, hni.2.2.2.1⟩
        have hb := kback_R (k := σ 2 i) (f := σ 3 i)
        refine cv_X7_43 G dX7_begin_58 (c_X3_forth (by omega) (hR1 _ (by rw [u48 2 (by decide), e2]) (by rw [u48 3 (by decide), e3]) (by rw [u48 4 (by decide), e4]) (by rw [u48 5 (by decide), e5]) (by rw [u48 6 (by decide), e6]))) (kk := fun r58 t58 h58 => ?_)
        obtain ⟨rfl, ee58⟩ := h58
        obtain rfl := ee58.symm
        rw [u48 2 (by decide), u48 3 (by decide), e2, e3]
        refine aw_iastore G dX7_begin_61 (by first | decide | assumption | omega) (by first | rfl | assumption) (by first | decide | assumption) (by omega) ?_
        refine aw_aload_n G dX7_begin_62 rfl ?_
        refine gf_X7_21 G dX7_begin_63 (kk := ?_)
        refine aw_iload_n G dX7_begin_66 rfl ?_
        refine aw_aload_n G dX7_begin_67 rfl ?_
        refine gf_X7_34 G dX7_begin_68 (kk := ?_)
        refine aw_iload_n G dX7_begin_71 rfl ?_
        refine cv_X7_47 G dX7_begin_72 (c_X3_back (by omega) (hR1 _ (by rw [up_ne (by decide), u48 2 (by decide), e2]) (by rw [up_ne (by decide), u48 3 (by decide), e3]) (by rw [up_ne (by decide), u48 4 (by decide), e4]) (by rw [up_ne (by decide), u48 5 (by decide), e5]) (by rw [up_ne (by decide), u48 6 (by decide), e6]))) (kk := fun r72 t72 h72 => ?_)
        obtain ⟨rfl, ee72⟩ := h72
        obtain rfl := ee72.symm
        rw [up_ne (show (2:Nat) ≠ 50 by decide), up_ne (show (3:Nat) ≠ 50 by decide), u48 2 (by decide), u48 3 (by decide), e2, e3]
        refine aw_iastore G dX7_begin_75 (by first | decide | assumption | omega) (by first | rfl | assumption) (by first | decide | assumption) (by omega) ?_
        refine aw_aload_n G dX7_begin_76 rfl ?_
        refine gf_X7_18 G dX7_begin_77 (kk := ?_)
        refine aw_iload_n G dX7_begin_80 rfl ?_
        refine aw_iaload G dX7_begin_81 (by first | decide | assumption | omega) (by first | rfl | assumption) (by first | decide | assumption) (by omega) ?_
        rw [up_o (show (50:Nat) ≠ 51 by decide), up_at]
        refine aw_if_le (tgt := 100) G dX7_begin_82 (by decide) (by first | omega | exact b01_R _ | exact bP_R _) (fun c82 => ?_) (fun c82 => ?_)
        · refine aw_aload_n G dX7_begin_100 rfl ?_
          refine gf_X7_21 G dX7_begin_101 (kk := ?_)
          refine aw_iload_n G dX7_begin_104 rfl ?_
          refine aw_iaload G dX7_begin_105 (by first | decide | assumption | omega) (by first | rfl | assumption) (by first | decide | assumption) (by omega) ?_
          first | rw [up_o (show (51:Nat) ≠ 52 by decide), up_at] | rw [up_at]
          refine aw_if_le (tgt := 124) G dX7_begin_106 (by decide) (by first | omega | exact b01_R _ | exact bP_R _) (fun c106 => ?_) (fun c106 => ?_)
          · refine aw_iinc_1 G dX7_begin_124 rfl (hc := by first | rfl | assumption) (k := ?_)
            refine aw_goto (tgt := 30) G dX7_begin_127 (by decide) ?_
            refine ih (i + 1) _ (by omega) (by omega) ?_ ?_ ?_ ?_ ?_
            · first
                | exact ((((ho.up (by decide)).up (by decide)).up (by decide)).up (by decide)).up (by decide)
                | exact (((ho.up (by decide)).up (by decide)).up (by decide)).up (by decide)
                | exact ((ho.up (by decide)).up (by decide)).up (by decide)
            · funext j
              simp only [up_o (show (47:Nat) ≠ 48 by decide), up_o (show (47:Nat) ≠ 50 by decide), up_o (show (47:Nat) ≠ 51 by decide), up_o (show (47:Nat) ≠ 52 by decide), h47]
            · intro p a b
              simp only [up_o (show (49:Nat) ≠ 48 by decide), up_o (show (49:Nat) ≠ 50 by decide), up_o (show (49:Nat) ≠ 51 by decide), up_o (show (49:Nat) ≠ 52 by decide)]
              exact hz p a b
            · intro j a b
              simp only [up_o (show (48:Nat) ≠ 50 by decide), up_o (show (48:Nat) ≠ 51 by decide), up_o (show (48:Nat) ≠ 52 by decide), up_o (show (50:Nat) ≠ 48 by decide), up_o (show (50:Nat) ≠ 51 by decide), up_o (show (50:Nat) ≠ 52 by decide), up_o (show (51:Nat) ≠ 48 by decide), up_o (show (51:Nat) ≠ 50 by decide), up_o (show (51:Nat) ≠ 52 by decide)]
              by_cases e : j = i
              · subst e
                rw [up_at, up_at, up_at]
                exact ⟨rfl, rfl, rfl⟩
              · simp only [up_nj e]
                exact hj j a (by omega)
            · intro p a b
              have hp := hL p a b
              have hw : nwt σ 1 p i = (if σ 4 i = p then kforth (σ 2 i) (σ 3 i) else 0) + (if σ 5 i = p then kback (σ 2 i) (σ 3 i) else 0) := rfl
              have hx : ∀ x y : Int, (x = -1 ∧ (∀ l, 0 ≤ l → l < i → nwt σ 1 p l = 0) ∨ (0 ≤ x ∧ x < i ∧ 0 < nwt σ 1 p x ∧ ∀ l, x < l → l < i → nwt σ 1 p l = 0)) → (y = if 0 < nwt σ 1 p i then i else x) → (y = -1 ∧ (∀ l, 0 ≤ l → l < i + 1 → nwt σ 1 p l = 0) ∨ (0 ≤ y ∧ y < i + 1 ∧ 0 < nwt σ 1 p y ∧ ∀ l, y < l → l < i + 1 → nwt σ 1 p l = 0)) := by
                intro x y q e
                have hnn : 0 ≤ nwt σ 1 p i := by rw [hw]; (repeat' split) <;> omega
                by_cases z : 0 < nwt σ 1 p i
                · rw [if_pos z] at e
                  subst e
                  exact Or.inr ⟨h0.1, by omega, z, fun l c d => by omega⟩
                · rw [if_neg z] at e
                  subst e
                  rcases q with ⟨q1, q2⟩ | ⟨q1, q2, q3, q4⟩
                  · refine Or.inl ⟨q1, fun l c d => ?_⟩
                    by_cases e : l = i
                    · rw [e]; omega
                    · exact q2 l c (by omega)
                  · refine Or.inr ⟨q1, by omega, q3, fun l c d => ?_⟩
                    by_cases e : l = i
                    · rw [e]; omega
                    · exact q4 l c (by omega)
              refine hx (τ 52 p) _ hp ?_
              rw [hw]
              unfold up
              simp only [show ((52:Nat) = 48) = False by decide, show ((52:Nat) = 50) = False by decide, show ((52:Nat) = 51) = False by decide, false_and, if_false, true_and]
              (repeat' split) <;> omega
          · refine aw_aload_n G dX7_begin_109 rfl ?_
            refine gf_X7_24 G dX7_begin_110 (kk := ?_)
            refine aw_aload_n G dX7_begin_113 rfl ?_
            refine gf_X7_34 G dX7_begin_114 (kk := ?_)
            refine gf_X7_53 G dX7_begin_117 (kk := ?_)
            refine aw_iload_n G dX7_begin_120 rfl ?_
            refine aw_iaload G dX7_begin_121 (by first | decide | assumption | omega) (by first | rfl | assumption) (by first | decide | assumption) (by omega) ?_
            first | rw [up_o (show (5:Nat) ≠ 52 by decide), up_o (show (5:Nat) ≠ 51 by decide), up_o (show (5:Nat) ≠ 50 by decide), up_o (show (5:Nat) ≠ 48 by decide), e5] | rw [up_o (show (5:Nat) ≠ 51 by decide), up_o (show (5:Nat) ≠ 50 by decide), up_o (show (5:Nat) ≠ 48 by decide), e5]
            refine aw_iload_n G dX7_begin_122 rfl ?_
            refine aw_iastore G dX7_begin_123 (by first | decide | assumption | omega) (by first | rfl | assumption) (by first | decide | assumption) (by omega) ?_
            refine aw_iinc_1 G dX7_begin_124 rfl (hc := by first | rfl | assumption) (k := ?_)
            refine aw_goto (tgt := 30) G dX7_begin_127 (by decide) ?_
            refine ih (i + 1) _ (by omega) (by omega) ?_ ?_ ?_ ?_ ?_
            · first
                | exact ((((ho.up (by decide)).up (by decide)).up (by decide)).up (by decide)).up (by decide)
                | exact (((ho.up (by decide)).up (by decide)).up (by decide)).up (by decide)
                | exact ((ho.up (by decide)).up (by decide)).up (by decide)
            · funext j
              simp only [up_o (show (47:Nat) ≠ 48 by decide), up_o (show (47:Nat) ≠ 50 by decide), up_o (show (47:Nat) ≠ 51 by decide), up_o (show (47:Nat) ≠ 52 by decide), h47]
            · intro p a b
              simp only [up_o (show (49:Nat) ≠ 48 by decide), up_o (show (49:Nat) ≠ 50 by decide), up_o (show (49:Nat) ≠ 51 by decide), up_o (show (49:Nat) ≠ 52 by decide)]
              exact hz p a b
            · intro j a b
              simp only [up_o (show (48:Nat) ≠ 50 by decide), up_o (show (48:Nat) ≠ 51 by decide), up_o (show (48:Nat) ≠ 52 by decide), up_o (show (50:Nat) ≠ 48 by decide), up_o (show (50:Nat) ≠ 51 by decide), up_o (show (50:Nat) ≠ 52 by decide), up_o (show (51:Nat) ≠ 48 by decide), up_o (show (51:Nat) ≠ 50 by decide), up_o (show (51:Nat) ≠ 52 by decide)]
              by_cases e : j = i
              · subst e
                rw [up_at, up_at, up_at]
                exact ⟨rfl, rfl, rfl⟩
              · simp only [up_nj e]
                exact hj j a (by omega)
            · intro p a b
              have hp := hL p a b
              have hw : nwt σ 1 p i = (if σ 4 i = p then kforth (σ 2 i) (σ 3 i) else 0) + (if σ 5 i = p then kback (σ 2 i) (σ 3 i) else 0) := rfl
              have hx : ∀ x y : Int, (x = -1 ∧ (∀ l, 0 ≤ l → l < i → nwt σ 1 p l = 0) ∨ (0 ≤ x ∧ x < i ∧ 0 < nwt σ 1 p x ∧ ∀ l, x < l → l < i → nwt σ 1 p l = 0)) → (y = if 0 < nwt σ 1 p i then i else x) → (y = -1 ∧ (∀ l, 0 ≤ l → l < i + 1 → nwt σ 1 p l = 0) ∨ (0 ≤ y ∧ y < i + 1 ∧ 0 < nwt σ 1 p y ∧ ∀ l, y < l → l < i + 1 → nwt σ 1 p l = 0)) := by
                intro x y q e
                have hnn : 0 ≤ nwt σ 1 p i := by rw [hw]; (repeat' split) <;> omega
                by_cases z : 0 < nwt σ 1 p i
                · rw [if_pos z] at e
                  subst e
                  exact Or.inr ⟨h0.1, by omega, z, fun l c d => by omega⟩
                · rw [if_neg z] at e
                  subst e
                  rcases q with ⟨q1, q2⟩ | ⟨q1, q2, q3, q4⟩
                  · refine Or.inl ⟨q1, fun l c d => ?_⟩
                    by_cases e : l = i
                    · rw [e]; omega
                    · exact q2 l c (by omega)
                  · refine Or.inr ⟨q1, by omega, q3, fun l c d => ?_⟩
                    by_cases e : l = i
                    · rw [e]; omega
                    · exact q4 l c (by omega)
              refine hx (τ 52 p) _ hp ?_
              rw [hw]
              unfold up
              simp only [show ((52:Nat) = 48) = False by decide, show ((52:Nat) = 50) = False by decide, show ((52:Nat) = 51) = False by decide, false_and, if_false, true_and]
              (repeat' split) <;> omega
        · refine aw_aload_n G dX7_begin_85 rfl ?_
          refine gf_X7_24 G dX7_begin_86 (kk := ?_)
          refine aw_aload_n G dX7_begin_89 rfl ?_
          refine gf_X7_34 G dX7_begin_90 (kk := ?_)
          refine gf_X7_50 G dX7_begin_93 (kk := ?_)
          refine aw_iload_n G dX7_begin_96 rfl ?_
          refine aw_iaload G dX7_begin_97 (by first | decide | assumption | omega) (by first | rfl | assumption) (by first | decide | assumption) (by omega) ?_
          rw [up_o (show (4:Nat) ≠ 51 by decide), up_o (show (4:Nat) ≠ 50 by decide), up_o (show (4:Nat) ≠ 48 by decide), e4]
          refine aw_iload_n G dX7_begin_98 rfl ?_
          refine aw_iastore G dX7_begin_99 (by first | decide | assumption | omega) (by first | rfl | assumption) (by first | decide | assumption) (by omega) ?_
          refine aw_aload_n G dX7_begin_100 rfl ?_
          refine gf_X7_21 G dX7_begin_101 (kk := ?_)
          refine aw_iload_n G dX7_begin_104 rfl ?_
          refine aw_iaload G dX7_begin_105 (by first | decide | assumption | omega) (by first | rfl | assumption) (by first | decide | assumption) (by omega) ?_
          first | rw [up_o (show (51:Nat) ≠ 52 by decide), up_at] | rw [up_at]
          refine aw_if_le (tgt := 124) G dX7_begin_106 (by decide) (by first | omega | exact b01_R _ | exact bP_R _) (fun c106 => ?_) (fun c106 => ?_)
          · refine aw_iinc_1 G dX7_begin_124 rfl (hc := by first | rfl | assumption) (k := ?_)
            refine aw_goto (tgt := 30) G dX7_begin_127 (by decide) ?_
            refine ih (i + 1) _ (by omega) (by omega) ?_ ?_ ?_ ?_ ?_
            · first
                | exact ((((ho.up (by decide)).up (by decide)).up (by decide)).up (by decide)).up (by decide)
                | exact (((ho.up (by decide)).up (by decide)).up (by decide)).up (by decide)
                | exact ((ho.up (by decide)).up (by decide)).up (by decide)
            · funext j
              simp only [up_o (show (47:Nat) ≠ 48 by decide), up_o (show (47:Nat) ≠ 50 by decide), up_o (show (47:Nat) ≠ 51 by decide), up_o (show (47:Nat) ≠ 52 by decide), h47]
            · intro p a b
              simp only [up_o (show (49:Nat) ≠ 48 by decide), up_o (show (49:Nat) ≠ 50 by decide), up_o (show (49:Nat) ≠ 51 by decide), up_o (show (49:Nat) ≠ 52 by decide)]
              exact hz p a b
            · intro j a b
              simp only [up_o (show (48:Nat) ≠ 50 by decide), up_o (show (48:Nat) ≠ 51 by decide), up_o (show (48:Nat) ≠ 52 by decide), up_o (show (50:Nat) ≠ 48 by decide), up_o (show (50:Nat) ≠ 51 by decide), up_o (show (50:Nat) ≠ 52 by decide), up_o (show (51:Nat) ≠ 48 by decide), up_o (show (51:Nat) ≠ 50 by decide), up_o (show (51:Nat) ≠ 52 by decide)]
              by_cases e : j = i
              · subst e
                rw [up_at, up_at, up_at]
                exact ⟨rfl, rfl, rfl⟩
              · simp only [up_nj e]
                exact hj j a (by omega)
            · intro p a b
              have hp := hL p a b
              have hw : nwt σ 1 p i = (if σ 4 i = p then kforth (σ 2 i) (σ 3 i) else 0) + (if σ 5 i = p then kback (σ 2 i) (σ 3 i) else 0) := rfl
              have hx : ∀ x y : Int, (x = -1 ∧ (∀ l, 0 ≤ l → l < i → nwt σ 1 p l = 0) ∨ (0 ≤ x ∧ x < i ∧ 0 < nwt σ 1 p x ∧ ∀ l, x < l → l < i → nwt σ 1 p l = 0)) → (y = if 0 < nwt σ 1 p i then i else x) → (y = -1 ∧ (∀ l, 0 ≤ l → l < i + 1 → nwt σ 1 p l = 0) ∨ (0 ≤ y ∧ y < i + 1 ∧ 0 < nwt σ 1 p y ∧ ∀ l, y < l → l < i + 1 → nwt σ 1 p l = 0)) := by
                intro x y q e
                have hnn : 0 ≤ nwt σ 1 p i := by rw [hw]; (repeat' split) <;> omega
                by_cases z : 0 < nwt σ 1 p i
                · rw [if_pos z] at e
                  subst e
                  exact Or.inr ⟨h0.1, by omega, z, fun l c d => by omega⟩
                · rw [if_neg z] at e
                  subst e
                  rcases q with ⟨q1, q2⟩ | ⟨q1, q2, q3, q4⟩
                  · refine Or.inl ⟨q1, fun l c d => ?_⟩
                    by_cases e : l = i
                    · rw [e]; omega
                    · exact q2 l c (by omega)
                  · refine Or.inr ⟨q1, by omega, q3, fun l c d => ?_⟩
                    by_cases e : l = i
                    · rw [e]; omega
                    · exact q4 l c (by omega)
              refine hx (τ 52 p) _ hp ?_
              rw [hw]
              unfold up
              simp only [show ((52:Nat) = 48) = False by decide, show ((52:Nat) = 50) = False by decide, show ((52:Nat) = 51) = False by decide, false_and, if_false, true_and]
              (repeat' split) <;> omega
          · refine aw_aload_n G dX7_begin_109 rfl ?_
            refine gf_X7_24 G dX7_begin_110 (kk := ?_)
            refine aw_aload_n G dX7_begin_113 rfl ?_
            refine gf_X7_34 G dX7_begin_114 (kk := ?_)
            refine gf_X7_53 G dX7_begin_117 (kk := ?_)
            refine aw_iload_n G dX7_begin_120 rfl ?_
            refine aw_iaload G dX7_begin_121 (by first | decide | assumption | omega) (by first | rfl | assumption) (by first | decide | assumption) (by omega) ?_
            first | rw [up_o (show (5:Nat) ≠ 52 by decide), up_o (show (5:Nat) ≠ 51 by decide), up_o (show (5:Nat) ≠ 50 by decide), up_o (show (5:Nat) ≠ 48 by decide), e5] | rw [up_o (show (5:Nat) ≠ 51 by decide), up_o (show (5:Nat) ≠ 50 by decide), up_o (show (5:Nat) ≠ 48 by decide), e5]
            refine aw_iload_n G dX7_begin_122 rfl ?_
            refine aw_iastore G dX7_begin_123 (by first | decide | assumption | omega) (by first | rfl | assumption) (by first | decide | assumption) (by omega) ?_
            refine aw_iinc_1 G dX7_begin_124 rfl (hc := by first | rfl | assumption) (k := ?_)
            refine aw_goto (tgt := 30) G dX7_begin_127 (by decide) ?_
            refine ih (i + 1) _ (by omega) (by omega) ?_ ?_ ?_ ?_ ?_
            · first
                | exact ((((ho.up (by decide)).up (by decide)).up (by decide)).up (by decide)).up (by decide)
                | exact (((ho.up (by decide)).up (by decide)).up (by decide)).up (by decide)
                | exact ((ho.up (by decide)).up (by decide)).up (by decide)
            · funext j
              simp only [up_o (show (47:Nat) ≠ 48 by decide), up_o (show (47:Nat) ≠ 50 by decide), up_o (show (47:Nat) ≠ 51 by decide), up_o (show (47:Nat) ≠ 52 by decide), h47]
            · intro p a b
              simp only [up_o (show (49:Nat) ≠ 48 by decide), up_o (show (49:Nat) ≠ 50 by decide), up_o (show (49:Nat) ≠ 51 by decide), up_o (show (49:Nat) ≠ 52 by decide)]
              exact hz p a b
            · intro j a b
              simp only [up_o (show (48:Nat) ≠ 50 by decide), up_o (show (48:Nat) ≠ 51 by decide), up_o (show (48:Nat) ≠ 52 by decide), up_o (show (50:Nat) ≠ 48 by decide), up_o (show (50:Nat) ≠ 51 by decide), up_o (show (50:Nat) ≠ 52 by decide), up_o (show (51:Nat) ≠ 48 by decide), up_o (show (51:Nat) ≠ 50 by decide), up_o (show (51:Nat) ≠ 52 by decide)]
              by_cases e : j = i
              · subst e
                rw [up_at, up_at, up_at]
                exact ⟨rfl, rfl, rfl⟩
              · simp only [up_nj e]
                exact hj j a (by omega)
            · intro p a b
              have hp := hL p a b
              have hw : nwt σ 1 p i = (if σ 4 i = p then kforth (σ 2 i) (σ 3 i) else 0) + (if σ 5 i = p then kback (σ 2 i) (σ 3 i) else 0) := rfl
              have hx : ∀ x y : Int, (x = -1 ∧ (∀ l, 0 ≤ l → l < i → nwt σ 1 p l = 0) ∨ (0 ≤ x ∧ x < i ∧ 0 < nwt σ 1 p x ∧ ∀ l, x < l → l < i → nwt σ 1 p l = 0)) → (y = if 0 < nwt σ 1 p i then i else x) → (y = -1 ∧ (∀ l, 0 ≤ l → l < i + 1 → nwt σ 1 p l = 0) ∨ (0 ≤ y ∧ y < i + 1 ∧ 0 < nwt σ 1 p y ∧ ∀ l, y < l → l < i + 1 → nwt σ 1 p l = 0)) := by
                intro x y q e
                have hnn : 0 ≤ nwt σ 1 p i := by rw [hw]; (repeat' split) <;> omega
                by_cases z : 0 < nwt σ 1 p i
                · rw [if_pos z] at e
                  subst e
                  exact Or.inr ⟨h0.1, by omega, z, fun l c d => by omega⟩
                · rw [if_neg z] at e
                  subst e
                  rcases q with ⟨q1, q2⟩ | ⟨q1, q2, q3, q4⟩
                  · refine Or.inl ⟨q1, fun l c d => ?_⟩
                    by_cases e : l = i
                    · rw [e]; omega
                    · exact q2 l c (by omega)
                  · refine Or.inr ⟨q1, by omega, q3, fun l c d => ?_⟩
                    by_cases e : l = i
                    · rw [e]; omega
                    · exact q4 l c (by omega)
              refine hx (τ 52 p) _ hp ?_
              rw [hw]
              unfold up
              simp only [show ((52:Nat) = 48) = False by decide, show ((52:Nat) = 50) = False by decide, show ((52:Nat) = 51) = False by decide, false_and, if_false, true_and]
              (repeat' split) <;> omega
  have one : ∀ (n0 : Nat) (i : Int) (τ : St), (0 ≤ i ∧ i ≤ 7) → (7 < i + (n0 : Int)) → (Only thS σ τ) → (τ 47 = σ 47) → (∀ p : Int, 0 ≤ p → p < i → τ 49 p = 0 ∧ τ 52 p = -1) → AW X V (τ) 2 [] [some (rv V 47), some (iv i)] := by
    intro n0
    induction n0 with
    | zero =>
      intro i τ h0 h1 ho h47 hz
      exfalso
      omega
    | succ n0 ih =>
      intro i τ h0 h1 ho h47 hz
      refine aw_iload_n G dX7_begin_2 rfl ?_
      refine aw_bipush G dX7_begin_3 (k := ?_)
      refine aw_icmp_ge (tgt := 28) G dX7_begin_5 (by decide) (by first | omega | exact b01_R _ | exact bP_R _) (by first | omega | exact b01_R _ | exact bP_R _) (fun c5 => ?_) (fun c5 => ?_)
      · refine aw_iconst G dX7_begin_28 ?_
        refine aw_istore_1 G dX7_begin_29 (hc := by first | rfl | assumption) (k := ?_)
        exact two ((σ 1 1).toNat + 1) 0 τ (by omega) (by omega) ho h47 (fun p a b => (hz p a (by omega)).1) (fun j a b => by omega) (fun p a b => Or.inl ⟨(hz p a (by omega)).2, fun l c d => by omega⟩)
      · refine aw_aload_n G dX7_begin_8 rfl ?_
        refine gf_X7_15 G dX7_begin_9 (kk := ?_)
        refine aw_iload_n G dX7_begin_12 rfl ?_
        refine aw_iconst G dX7_begin_13 ?_
        refine aw_iastore G dX7_begin_14 (by first | decide | assumption | omega) (by first | rfl | assumption) (by first | decide | assumption) (by omega) ?_
        refine aw_aload_n G dX7_begin_15 rfl ?_
        refine gf_X7_24 G dX7_begin_16 (kk := ?_)
        refine aw_iload_n G dX7_begin_19 rfl ?_
        refine aw_iconst G dX7_begin_20 ?_
        refine aw_iastore G dX7_begin_21 (by first | decide | assumption | omega) (by first | rfl | assumption) (by first | decide | assumption) (by omega) ?_
        refine aw_iinc_1 G dX7_begin_22 rfl (hc := by first | rfl | assumption) (k := ?_)
        refine aw_goto (tgt := 2) G dX7_begin_25 (by decide) ?_
        refine ih (i + 1) _ (by omega) (by omega) ((ho.up (by decide)).up (by decide)) (by rw [up_ne (by decide), up_ne (by decide), h47]) (fun p a b => ?_)
        rw [up_o (show (49:Nat) ≠ 52 by decide)]
        by_cases e : p = i
        · subst e
          rw [up_at, up_at]
          exact ⟨rfl, rfl⟩
        · rw [up_nj e, up_nj e, up_o (show (52:Nat) ≠ 49 by decide)]
          exact hz p a (by omega)
  refine aw_iconst G dX7_begin_0 ?_
  refine aw_istore_1 G dX7_begin_1 (hc := by first | rfl | assumption) (k := ?_)
  exact one 8 0 σ (by omega) (by omega) Only.rf rfl (fun p a b => by omega)
set_option maxHeartbeats 4000000 in
theorem c_X7_relabel {V : Wd} {σ : St} {ρ : St} {f : Int → Int} {l v : Int} (hN : NetOK ρ 1) (hT : TH ρ σ f) (hl : 0 ≤ l ∧ l < ρ 1 1) : Ct V yX7_relabel cX7_relabel 4 none 0 0 [rv V 47, iv l, iv v] σ (PV (fun τ => TH ρ τ (upf f l v) ∧ Only [48, 49] σ τ)) := by
  refine ct_of (by decide) (Nat.le_of_ble_eq_true rfl) (fun X G T => ?_)
  have G : Gd X V cX7_relabel RX7 4 0 0 := G
  show AW X V σ 0 [] [some (rv V 47), some (iv l), some (iv v), none]
  obtain ⟨ho, hj, hs⟩ := id hT
  obtain ⟨n1, n2, n3, n4, n5, n6⟩ := id hN
  have e4 : σ 4 = ρ 4 := ho 4 (by decide)
  have e5 : σ 5 = ρ 5 := ho 5 (by decide)
  have hni : 0 ≤ ρ 2 l ∧ ρ 2 l ≤ 5 ∧ 0 ≤ ρ 3 l ∧ ρ 3 l ≤ 9 ∧ 0 ≤ ρ 4 l ∧ ρ 4 l ≤ 6 ∧ 0 ≤ ρ 5 l ∧ ρ 5 l ≤ 6 ∧ 0 ≤ ρ 6 l ∧ ρ 6 l ≤ 99 := n5 l hl.1 (by omega)
  obtain ⟨j1, j2, j3⟩ := hj l hl.1 hl.2
  refine aw_iload_n G dX7_relabel_0 rfl ?_
  refine aw_aload_n G dX7_relabel_1 rfl ?_
  refine gf_X7_9 G dX7_relabel_2 (kk := ?_)
  refine aw_iload_n G dX7_relabel_5 rfl ?_
  refine aw_iaload G dX7_relabel_6 (by first | decide | assumption | omega) (by first | rfl | assumption) (by first | decide | assumption) (by omega) ?_
  rw [j1]
  refine aw_isub G dX7_relabel_7 ?_
  refine aw_istore_3 G dX7_relabel_8 (hc := by first | rfl | assumption) (k := ?_)
  refine aw_aload_n G dX7_relabel_9 rfl ?_
  refine gf_X7_9 G dX7_relabel_10 (kk := ?_)
  refine aw_iload_n G dX7_relabel_13 rfl ?_
  refine aw_iload_n G dX7_relabel_14 rfl ?_
  refine aw_iastore G dX7_relabel_15 (by first | decide | assumption | omega) (by first | rfl | assumption) (by first | decide | assumption) (by omega) ?_
  refine aw_aload_n G dX7_relabel_16 rfl ?_
  refine gf_X7_15 G dX7_relabel_17 (kk := ?_)
  refine aw_aload_n G dX7_relabel_20 rfl ?_
  refine gf_X7_34 G dX7_relabel_21 (kk := ?_)
  refine gf_X7_50 G dX7_relabel_24 (kk := ?_)
  refine aw_iload_n G dX7_relabel_27 rfl ?_
  refine aw_iaload G dX7_relabel_28 (by first | decide | assumption | omega) (by first | rfl | assumption) (by first | decide | assumption) (by omega) ?_
  rw [up_o (show (4:Nat) ≠ 48 by decide), e4]
  refine aw_dup2 G dX7_relabel_29 (k := ?_)
  refine aw_iaload G dX7_relabel_30 (by first | decide | assumption | omega) (by first | rfl | assumption) (by first | decide | assumption) (by omega) ?_
  rw [up_o (show (49:Nat) ≠ 48 by decide), hs _ (by omega) (by omega)]
  refine aw_iload_n G dX7_relabel_31 rfl ?_
  refine aw_aload_n G dX7_relabel_32 rfl ?_
  refine gf_X7_18 G dX7_relabel_33 (kk := ?_)
  refine aw_iload_n G dX7_relabel_36 rfl ?_
  refine aw_iaload G dX7_relabel_37 (by first | decide | assumption | omega) (by first | rfl | assumption) (by first | decide | assumption) (by omega) ?_
  rw [up_o (show (50:Nat) ≠ 48 by decide), j2]
  refine aw_imul G dX7_relabel_38 ?_
  refine aw_iadd G dX7_relabel_39 ?_
  refine aw_iastore G dX7_relabel_40 (by first | decide | assumption | omega) (by first | rfl | assumption) (by first | decide | assumption) (by omega) ?_
  refine aw_aload_n G dX7_relabel_41 rfl ?_
  refine gf_X7_15 G dX7_relabel_42 (kk := ?_)
  refine aw_aload_n G dX7_relabel_45 rfl ?_
  refine gf_X7_34 G dX7_relabel_46 (kk := ?_)
  refine gf_X7_53 G dX7_relabel_49 (kk := ?_)
  refine aw_iload_n G dX7_relabel_52 rfl ?_
  refine aw_iaload G dX7_relabel_53 (by first | decide | assumption | omega) (by first | rfl | assumption) (by first | decide | assumption) (by omega) ?_
  rw [up_o (show (5:Nat) ≠ 49 by decide), up_o (show (5:Nat) ≠ 48 by decide), e5]
  refine aw_dup2 G dX7_relabel_54 (k := ?_)
  refine aw_iaload G dX7_relabel_55 (by first | decide | assumption | omega) (by first | rfl | assumption) (by first | decide | assumption) (by omega) ?_
  refine aw_iload_n G dX7_relabel_56 rfl ?_
  refine aw_aload_n G dX7_relabel_57 rfl ?_
  refine gf_X7_21 G dX7_relabel_58 (kk := ?_)
  refine aw_iload_n G dX7_relabel_61 rfl ?_
  refine aw_iaload G dX7_relabel_62 (by first | decide | assumption | omega) (by first | rfl | assumption) (by first | decide | assumption) (by omega) ?_
  rw [up_o (show (51:Nat) ≠ 49 by decide), up_o (show (51:Nat) ≠ 48 by decide), j3]
  refine aw_imul G dX7_relabel_63 ?_
  refine aw_iadd G dX7_relabel_64 ?_
  refine aw_iastore G dX7_relabel_65 (by first | decide | assumption | omega) (by first | rfl | assumption) (by first | decide | assumption) (by omega) ?_
  exact aw_vret G T dX7_relabel_66 (by
    refine ⟨⟨((ho.up (by decide)).up (by decide)).up (by decide), fun j a b => ?_, fun p a b => ?_⟩, ((Only.rf.up (by decide)).up (by decide)).up (by decide)⟩
    · obtain ⟨g1, g2, g3⟩ := hj j a b
      simp only [up_o (show (48:Nat) ≠ 49 by decide), up_o (show (50:Nat) ≠ 49 by decide), up_o (show (50:Nat) ≠ 48 by decide), up_o (show (51:Nat) ≠ 49 by decide), up_o (show (51:Nat) ≠ 48 by decide)]
      refine ⟨?_, g2, g3⟩
      by_cases e : j = l
      · rw [e, up_at, upf_at]
      · rw [up_nj e, upf_o e, g1]
    · rw [tsum_up hl]
      have hw : nwt ρ 1 p l = (if ρ 4 l = p then kforth (ρ 2 l) (ρ 3 l) else 0) + (if ρ 5 l = p then kback (ρ 2 l) (ρ 3 l) else 0) := rfl
      rw [hw, Int.mul_add]
      by_cases c4 : ρ 4 l = p
      · by_cases c5 : ρ 5 l = p
        · rw [if_pos c4, if_pos c5, c5, up_at, c4, up_at]
          omega
        · rw [if_pos c4, if_neg c5, up_nj (fun q => c5 q.symm), c4, up_at]
          omega
      · by_cases c5 : ρ 5 l = p
        · rw [if_neg c4, if_pos c5, c5, up_at, up_nj (fun q => c4 q.symm), up_o (show (49:Nat) ≠ 48 by decide), hs p a b]
          omega
        · rw [if_neg c4, if_neg c5, up_nj (fun q => c5 q.symm), up_nj (fun q => c4 q.symm), up_o (show (49:Nat) ≠ 48 by decide), hs p a b]
          omega)

set_option maxHeartbeats 4000000 in
theorem c_X7_power {V : Wd} {σ : St} {b n : Int} (hn : 0 ≤ n ∧ n ≤ 8) : Ct V yX7_power cX7_power 4 (some .int) 0 0 [iv b, iv n] σ (PI (fun r τ => r = pw b n.toNat ∧ τ = σ)) := by
  refine ct_of (by decide) (Nat.le_of_ble_eq_true rfl) (fun X G T => ?_)
  have G : Gd X V cX7_power RX7 4 0 0 := G
  show AW X V σ 0 [] [some (iv b), some (iv n), none, none]
  have loop : ∀ (n0 : Nat) (i : Int), (0 ≤ i ∧ i ≤ n) → (n < i + (n0 : Int)) → AW X V (σ) 4 [] [some (iv b), some (iv n), some (iv (pw b i.toNat)), some (iv i)] := by
    intro n0
    induction n0 with
    | zero =>
      intro i h0 h1
      exfalso
      omega
    | succ n0 ih =>
      intro i h0 h1
      refine aw_iload_n G dX7_power_4 rfl ?_
      refine aw_iload_n G dX7_power_5 rfl ?_
      refine aw_icmp_ge (tgt := 19) G dX7_power_6 (by decide) (by first | omega | exact b01_R _ | exact bP_R _) (by first | omega | exact b01_R _ | exact bP_R _) (fun c6 => ?_) (fun c6 => ?_)
      · refine aw_iload_n G dX7_power_19 rfl ?_
        exact aw_iret G T dX7_power_20 (⟨by rw [show i = n by omega], rfl⟩)
      · refine aw_iload_n G dX7_power_9 rfl ?_
        refine aw_iload_n G dX7_power_10 rfl ?_
        refine aw_imul G dX7_power_11 ?_
        refine aw_istore_2 G dX7_power_12 (hc := by first | rfl | assumption) (k := ?_)
        refine aw_iinc_3 G dX7_power_13 rfl (hc := by first | rfl | assumption) (k := ?_)
        refine aw_goto (tgt := 4) G dX7_power_16 (by decide) ?_
        have hz := ih (i + 1) (by omega) (by omega)
        rw [show (i + 1).toNat = i.toNat + 1 by omega, pw_s] at hz
        exact hz
  refine aw_iconst G dX7_power_0 ?_
  refine aw_istore_2 G dX7_power_1 (hc := by first | rfl | assumption) (k := ?_)
  refine aw_iconst G dX7_power_2 ?_
  refine aw_istore_3 G dX7_power_3 (hc := by first | rfl | assumption) (k := ?_)
  exact loop (n.toNat + 1) 0 (by omega) (by omega)
