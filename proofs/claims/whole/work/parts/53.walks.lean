/-- whether a number has a bit -/
def bit (x i : Int) : Prop := x.toNat.testBit i.toNat = true
theorem tb_n {x : Int} (h : 0 ≤ x ∧ x < 2147483648) : (Int32.ofInt x).toBitVec.toNat = x.toNat := by
  have := tbn x
  omega
theorem ti_n {z : Int32} (h : z.toBitVec.toNat < 2147483648) : z.toInt = (z.toBitVec.toNat : Int) := by
  show z.toBitVec.toInt = _
  rw [BitVec.toInt_eq_toNat_cond, if_pos (by omega)]
theorem ior_n {x y : Int} (hx : 0 ≤ x ∧ x < 2147483648) (hy : 0 ≤ y ∧ y < 2147483648) : ior x y = ((x.toNat ||| y.toNat : Nat) : Int) := by
  have h : (Int32.ofInt x ||| Int32.ofInt y).toBitVec.toNat = x.toNat ||| y.toNat := by
    rw [Int32.toBitVec_or, BitVec.toNat_or, tb_n hx, tb_n hy]
  have hb : x.toNat ||| y.toNat < 2 ^ 31 := Nat.or_lt_two_pow (by omega) (by omega)
  unfold ior
  rw [ti_n (by rw [h]; exact hb), h]
theorem iand_n {x y : Int} (hx : 0 ≤ x ∧ x < 2147483648) (hy : 0 ≤ y ∧ y < 2147483648) : iand x y = ((x.toNat &&& y.toNat : Nat) : Int) := by
  have h : (Int32.ofInt x &&& Int32.ofInt y).toBitVec.toNat = x.toNat &&& y.toNat := by
    rw [Int32.toBitVec_and, BitVec.toNat_and, tb_n hx, tb_n hy]
  have hb : x.toNat &&& y.toNat < 2 ^ 31 := Nat.and_lt_two_pow _ (by omega)
  unfold iand
  rw [ti_n (by rw [h]; exact hb), h]
theorem am_n : ∀ a : Fin 21, ((Int32.ofInt (a.val : Int) &&& 31).toBitVec.smod 32).toNat = a.val := by decide +kernel
theorem am_v {a : Int} (h : 0 ≤ a ∧ a ≤ 20) : ((Int32.ofInt a &&& 31).toBitVec.smod 32).toNat = a.toNat := by
  have := am_n ⟨a.toNat, by omega⟩
  rw [show (((⟨a.toNat, by omega⟩ : Fin 21).val : Nat) : Int) = a from by show ((a.toNat : Nat) : Int) = a; omega] at this
  exact this
theorem ishr_n {x a : Int} (hx : 0 ≤ x ∧ x < 2147483648) (ha : 0 ≤ a ∧ a ≤ 20) : ishr x a = ((x.toNat >>> a.toNat : Nat) : Int) := by
  have hm : (Int32.ofInt x).toBitVec.msb = false := by
    rw [BitVec.msb_eq_false_iff_two_mul_lt, tb_n hx]
    omega
  have h : (Int32.ofInt x >>> (Int32.ofInt a &&& 31)).toBitVec.toNat = x.toNat >>> a.toNat := by
    rw [Int32.toBitVec_shiftRight]
    show ((Int32.ofInt x).toBitVec.sshiftRight ((Int32.ofInt a &&& 31).toBitVec.smod 32).toNat).toNat = _
    rw [am_v ha, BitVec.sshiftRight_eq_of_msb_false hm, BitVec.toNat_ushiftRight, tb_n hx]
  have hb : x.toNat >>> a.toNat ≤ x.toNat := by
    rw [Nat.shiftRight_eq_div_pow]
    exact Nat.div_le_self _ _
  unfold ishr
  rw [ti_n (by rw [h]; omega), h]
theorem ishl_1 : ∀ a : Fin 21, ishl 1 (a.val : Int) = ((2 ^ a.val : Nat) : Int) ∧ ishl 0 (a.val : Int) = 0 := by decide +kernel
theorem ishl_v {a : Int} (h : 0 ≤ a ∧ a ≤ 20) : ishl 1 a = ((2 ^ a.toNat : Nat) : Int) ∧ ishl 0 a = 0 := by
  have := ishl_1 ⟨a.toNat, by omega⟩
  rw [show (((⟨a.toNat, by omega⟩ : Fin 21).val : Nat) : Int) = a from by show ((a.toNat : Nat) : Int) = a; omega] at this
  exact this
theorem p2_le {a : Nat} (h : a ≤ 20) : 2 ^ a ≤ 1048576 := Nat.pow_le_pow_right (n := 2) (by decide) h
theorem ishl_R {a : Int} (h : 0 ≤ a ∧ a ≤ 20) : 1 ≤ ishl 1 a ∧ ishl 1 a ≤ 1048576 := by
  have h1 := (ishl_v h).1
  have h2 := p2_le (a := a.toNat) (by omega)
  have h3 := Nat.two_pow_pos a.toNat
  omega
theorem bit_0 (i : Int) : ¬ bit 0 i := by
  unfold bit
  rw [show (0 : Int).toNat = 0 from rfl, Nat.zero_testBit]
  decide
theorem bit_l {a i : Int} (h : 0 ≤ a ∧ a ≤ 20) (hi : 0 ≤ i) : bit (ishl 1 a) i ↔ i = a := by
  unfold bit
  rw [(ishl_v h).1, Int.toNat_natCast, Nat.testBit_two_pow, decide_eq_true_iff]
  omega
theorem bit_or {x y i : Int} (hx : 0 ≤ x ∧ x < 2147483648) (hy : 0 ≤ y ∧ y < 2147483648) : bit (ior x y) i ↔ bit x i ∨ bit y i := by
  unfold bit
  rw [ior_n hx hy, Int.toNat_natCast, Nat.testBit_or, Bool.or_eq_true]
theorem or_R {x y : Int} (k : Nat) (hk : k ≤ 31) (hx : 0 ≤ x ∧ x < (2 ^ k : Nat)) (hy : 0 ≤ y ∧ y < (2 ^ k : Nat)) : 0 ≤ ior x y ∧ ior x y < (2 ^ k : Nat) := by
  have h1 : 2 ^ k ≤ 2 ^ 31 := Nat.pow_le_pow_right (by decide) hk
  rw [ior_n (by omega) (by omega)]
  have : x.toNat ||| y.toNat < 2 ^ k := Nat.or_lt_two_pow (by omega) (by omega)
  omega
theorem bit_r {x a i : Int} (hx : 0 ≤ x ∧ x < 2147483648) (ha : 0 ≤ a ∧ a ≤ 20) (hi : 0 ≤ i) : bit (ishr x a) i ↔ bit x (i + a) := by
  unfold bit
  rw [ishr_n hx ha, Int.toNat_natCast, Nat.testBit_shiftRight, show a.toNat + i.toNat = (i + a).toNat by omega]
theorem ishr_R {x a : Int} (hx : 0 ≤ x ∧ x < 2147483648) (ha : 0 ≤ a ∧ a ≤ 20) : 0 ≤ ishr x a ∧ ishr x a ≤ x := by
  rw [ishr_n hx ha]
  have hb : x.toNat >>> a.toNat ≤ x.toNat := by
    rw [Nat.shiftRight_eq_div_pow]
    exact Nat.div_le_self _ _
  generalize x.toNat >>> a.toNat = z at hb ⊢
  omega
/-- one bit taken out -/
theorem bit_1 {x a : Int} (hx : 0 ≤ x ∧ x < 2147483648) (ha : 0 ≤ a ∧ a ≤ 20) : iand (ishr x a) 1 = bP (bit x a) := by
  have hR := ishr_R hx ha
  have hb := bit_r (i := 0) hx ha (by decide)
  rw [Int.zero_add] at hb
  have h2 : iand (ishr x a) 1 = (((ishr x a).toNat % 2 : Nat) : Int) := by
    rw [iand_n (by omega) (by decide)]
    show ((((ishr x a).toNat &&& 1 : Nat)) : Int) = _
    rw [Nat.and_one_is_mod]
  have h3 : bit (ishr x a) 0 ↔ (ishr x a).toNat % 2 = 1 := by
    unfold bit
    show (ishr x a).toNat.testBit 0 = true ↔ _
    rw [Nat.testBit_zero, decide_eq_true_iff]
  rw [h2]
  by_cases c : bit x a
  · rw [bP_t c]
    have := h3.mp (hb.mpr c)
    omega
  · rw [bP_f c]
    have : ¬ (ishr x a).toNat % 2 = 1 := fun q => c (hb.mp (h3.mpr q))
    omega
theorem bit_hi {x : Int} {k : Nat} (hx : x < (2 ^ k : Nat)) {i : Int} (hi : (k : Int) ≤ i) : ¬ bit x i := by
  unfold bit
  rw [Nat.testBit_lt_two_pow (x := x.toNat) (i := i.toNat)]
  · decide
  · have h1 : 2 ^ k ≤ 2 ^ i.toNat := Nat.pow_le_pow_right (by decide) (by omega)
    have := Nat.two_pow_pos k
    omega
theorem bit_ext {x y : Int} (hx : 0 ≤ x) (hy : 0 ≤ y) (h : ∀ i : Int, 0 ≤ i → (bit x i ↔ bit y i)) : x = y := by
  have : x.toNat = y.toNat := Nat.eq_of_testBit_eq fun i => by
    have := h i (by omega)
    unfold bit at this
    rw [Int.toNat_natCast] at this
    exact Bool.eq_iff_iff.mpr this
  omega
theorem and_0 {x y : Int} (hx : 0 ≤ x ∧ x < 2147483648) (hy : 0 ≤ y ∧ y < 2147483648) : iand x y = 0 ↔ ∀ i : Int, 0 ≤ i → bit x i → ¬ bit y i := by
  have hA : 0 ≤ iand x y := by rw [iand_n hx hy]; omega
  have hb : ∀ i : Int, bit (iand x y) i ↔ bit x i ∧ bit y i := fun i => by
    unfold bit
    rw [iand_n hx hy, Int.toNat_natCast, Nat.testBit_and, Bool.and_eq_true]
  constructor
  · intro e i _ b c
    have := (hb i).mpr ⟨b, c⟩
    rw [e] at this
    exact bit_0 i this
  · intro q
    refine bit_ext hA (by decide) fun i h0 => ?_
    rw [hb]
    exact ⟨fun z => absurd z.2 (q i h0 z.1), fun z => absurd z (bit_0 i)⟩
theorem mod_0 {x q : Int} (hx : 0 ≤ x ∧ x < 2147483648) (hq : 0 ≤ q ∧ q ≤ 20) : x.tmod (ishl 1 q) = 0 ↔ ∀ i : Int, 0 ≤ i → i < q → ¬ bit x i := by
  obtain ⟨n, rfl⟩ : ∃ n : Nat, x = n := ⟨x.toNat, by omega⟩
  rw [(ishl_v hq).1]
  have e : (n : Int).tmod ((2 ^ q.toNat : Nat) : Int) = ((n % 2 ^ q.toNat : Nat) : Int) := rfl
  rw [e]
  constructor
  · intro h i h0 h1 b
    have hz : n % 2 ^ q.toNat = 0 := by omega
    unfold bit at b
    rw [Int.toNat_natCast] at b
    have := Nat.testBit_mod_two_pow n q.toNat i.toNat
    rw [hz, Nat.zero_testBit, b, Bool.and_true, eq_comm, decide_eq_false_iff_not] at this
    omega
  · intro h
    have : n % 2 ^ q.toNat = 0 := Nat.eq_of_testBit_eq fun i => by
      rw [Nat.testBit_mod_two_pow, Nat.zero_testBit]
      by_cases c : i < q.toNat
      · have := h i (by omega) (by omega)
        unfold bit at this
        rw [Int.toNat_natCast, Int.toNat_natCast] at this
        simp [this]
      · simp [c]
    omega
theorem and_127 {x i : Int} (hx : 0 ≤ x ∧ x < 2147483648) (hi : 0 ≤ i) : (bit (iand x 127) i ↔ i < 7 ∧ bit x i) ∧ 0 ≤ iand x 127 ∧ iand x 127 < 128 := by
  have e : iand x 127 = ((x.toNat % 2 ^ 7 : Nat) : Int) := by
    rw [iand_n hx (by decide)]
    show (((x.toNat &&& (2 ^ 7 - 1) : Nat)) : Int) = _
    rw [Nat.and_two_pow_sub_one_eq_mod]
  refine ⟨?_, by omega, by omega⟩
  unfold bit
  rw [e, Int.toNat_natCast, Nat.testBit_mod_two_pow, Bool.and_eq_true, decide_eq_true_iff]
  exact ⟨fun q => ⟨by omega, q.2⟩, fun q => ⟨by omega, q.2⟩⟩
/-- how many bits -/
noncomputable def pc (x : Int) : Nat → Int
  | 0 => 0
  | n + 1 => pc x n + bP (bit x n)
theorem pc_s (x : Int) (n : Nat) : pc x (n + 1) = pc x n + bP (bit x n) := rfl
theorem bP01 (p : Prop) : bP p = 0 ∨ bP p = 1 := by
  by_cases h : p
  · exact Or.inr (bP_t h)
  · exact Or.inl (bP_f h)
theorem pc_R (x : Int) : ∀ n : Nat, 0 ≤ pc x n ∧ pc x n ≤ n
  | 0 => by unfold pc; omega
  | n + 1 => by
    have h := pc_R x n
    have := bP01 (bit x n)
    rw [pc_s]
    omega
theorem pc_le {x y : Int} (h : ∀ i : Int, 0 ≤ i → bit x i → bit y i) : ∀ n : Nat, pc x n ≤ pc y n
  | 0 => Int.le_refl 0
  | n + 1 => by
    have h1 := pc_le h n
    rw [pc_s, pc_s]
    by_cases c : bit x n
    · rw [bP_t c, bP_t (h n (by omega) c)]; omega
    · rw [bP_f c]
      have := bP01 (bit y n)
      omega
theorem pc_lt {x y : Int} (h : ∀ i : Int, 0 ≤ i → bit x i → bit y i) {j : Int} (j0 : 0 ≤ j) (hx : ¬ bit x j) (hy : bit y j) : ∀ n : Nat, j < n → pc x n + 1 ≤ pc y n
  | 0, hj => by omega
  | n + 1, hj => by
    rw [pc_s, pc_s]
    by_cases e : j = n
    · rw [← e, bP_f hx, bP_t hy]
      have := pc_le h n
      omega
    · have h1 := pc_lt h j0 hx hy n (by omega)
      by_cases c : bit x n
      · rw [bP_t c, bP_t (h n (by omega) c)]; omega
      · rw [bP_f c]
        have := bP01 (bit y n)
        omega
/-- grown, if it isn't the same -/
theorem pc_gr {x y : Int} (k : Nat) (hx : 0 ≤ x ∧ x < (2 ^ k : Nat)) (hy : 0 ≤ y ∧ y < (2 ^ k : Nat)) (h : ∀ i : Int, 0 ≤ i → bit x i → bit y i) (hne : y ≠ x) : pc x k + 1 ≤ pc y k := by
  by_cases c : ∃ j : Int, 0 ≤ j ∧ bit y j ∧ ¬ bit x j
  · obtain ⟨j, j0, j1, j2⟩ := c
    refine pc_lt h j0 j2 j1 k ?_
    by_cases e : j < k
    · exact e
    · exact absurd j1 (bit_hi hy.2 (by omega))
  · refine absurd (bit_ext hy.1 hx.1 fun i i0 => ⟨fun b => ?_, h i i0⟩) hne
    by_cases d : bit x i
    · exact d
    · exact absurd ⟨i, i0, b, d⟩ c
/-- the number of those bits -/
noncomputable def setN (P : Int → Prop) : Nat → Int
  | 0 => 0
  | n + 1 => setN P n + bP (P n) * (2 ^ n : Nat)
theorem setN_v (P : Int → Prop) : ∀ n : Nat, (0 ≤ setN P n ∧ setN P n < (2 ^ n : Nat)) ∧ ∀ i : Int, 0 ≤ i → (bit (setN P n) i ↔ i < n ∧ P i)
  | 0 => ⟨by unfold setN; decide, fun i i0 => ⟨fun b => absurd b (bit_0 i), fun q => by omega⟩⟩
  | n + 1 => by
    obtain ⟨⟨h1, h2⟩, h3⟩ := setN_v P n
    have hp : (2 ^ (n + 1) : Nat) = 2 ^ n * 2 := Nat.pow_succ 2 n
    show (0 ≤ setN P n + bP (P n) * (2 ^ n : Nat) ∧ setN P n + bP (P n) * (2 ^ n : Nat) < (2 ^ (n + 1) : Nat)) ∧ ∀ i : Int, 0 ≤ i → (bit (setN P n + bP (P n) * (2 ^ n : Nat)) i ↔ i < ((n + 1 : Nat) : Int) ∧ P i)
    by_cases c : P n
    · rw [bP_t c, Int.one_mul]
      refine ⟨by omega, fun i i0 => ?_⟩
      have e : (setN P n + ((2 ^ n : Nat) : Int)).toNat = 2 ^ n + (setN P n).toNat := by omega
      unfold bit
      rw [e]
      by_cases d : i.toNat = n
      · rw [d, Nat.testBit_two_pow_add_eq, Nat.testBit_lt_two_pow (by omega)]
        have : i = n := by omega
        rw [this]
        exact ⟨fun _ => ⟨by omega, c⟩, fun _ => rfl⟩
      · by_cases l : i.toNat < n
        · rw [Nat.testBit_two_pow_add_gt l]
          have := h3 i i0
          unfold bit at this
          rw [this]
          exact ⟨fun q => ⟨by omega, q.2⟩, fun q => ⟨by omega, q.2⟩⟩
        · have h4 : 2 ^ n + (setN P n).toNat < 2 ^ i.toNat := by
            have : 2 ^ (n + 1) ≤ 2 ^ i.toNat := Nat.pow_le_pow_right (by decide) (by omega)
            omega
          rw [Nat.testBit_lt_two_pow h4]
          exact ⟨fun q => absurd q (by decide), fun q => by omega⟩
    · rw [bP_f c, Int.zero_mul, Int.add_zero]
      refine ⟨by omega, fun i i0 => ?_⟩
      rw [h3 i i0]
      refine ⟨fun q => ⟨by omega, q.2⟩, fun q => ⟨?_, q.2⟩⟩
      by_cases e : i = n
      · rw [e] at q
        exact absurd q.2 c
      · omega
theorem set_e {x : Int} {P : Int → Prop} (n : Nat) (hx : 0 ≤ x ∧ x < (2 ^ n : Nat)) (h : ∀ i : Int, 0 ≤ i → i < n → (bit x i ↔ P i)) : x = setN P n := by
  obtain ⟨h1, h2⟩ := setN_v P n
  refine bit_ext hx.1 h1.1 fun i i0 => ?_
  rw [h2 i i0]
  by_cases c : i < n
  · rw [h i i0 c]
    exact ⟨fun q => ⟨c, q⟩, fun q => q.2⟩
  · exact ⟨fun b => absurd b (bit_hi hx.2 (by omega)), fun q => absurd q.1 c⟩
/-- over so many lines one comes from p to q -/
def wk (L : Int) (a b : Int → Int) (p : Int) : Nat → Int → Prop
  | 0, q => q = p
  | n + 1, q => ∃ r l : Int, wk L a b p n r ∧ 0 ≤ l ∧ l < L ∧ ((a l = r ∧ b l = q) ∨ (b l = r ∧ a l = q))
section WK
variable {L : Int} {a b : Int → Int}
theorem wk_1 {p l : Int} {n : Nat} (h0 : 0 ≤ l) (h1 : l < L) : (wk L a b p n (a l) → wk L a b p (n + 1) (b l)) ∧ (wk L a b p n (b l) → wk L a b p (n + 1) (a l)) :=
  ⟨fun h => ⟨a l, l, h, h0, h1, Or.inl ⟨rfl, rfl⟩⟩, fun h => ⟨b l, l, h, h0, h1, Or.inr ⟨rfl, rfl⟩⟩⟩
theorem wk_c {a' b' : Int → Int} (e : ∀ l : Int, 0 ≤ l → l < L → a l = a' l ∧ b l = b' l) {p : Int} : ∀ {n : Nat} {q : Int}, wk L a b p n q → wk L a' b' p n q
  | 0, _, h => h
  | n + 1, q, ⟨r, l, h, h0, h1, h2⟩ => ⟨r, l, wk_c e h, h0, h1, by rw [← (e l h0 h1).1, ← (e l h0 h1).2]; exact h2⟩
theorem wk_t {p q : Int} {n : Nat} (h : wk L a b p n q) : ∀ {m : Nat} {r : Int}, wk L a b q m r → wk L a b p (n + m) r
  | 0, r, g => by rw [show r = q from g]; exact h
  | m + 1, r, ⟨s, l, g, h0, h1, h2⟩ => ⟨s, l, wk_t h g, h0, h1, h2⟩
theorem wk_s {p : Int} : ∀ {n : Nat} {q : Int}, wk L a b p n q → wk L a b q n p
  | 0, q, h => (show q = p from h).symm
  | n + 1, q, ⟨s, l, g, h0, h1, h2⟩ => by
    have h3 : wk L a b q 1 s := ⟨q, l, rfl, h0, h1, by omega⟩
    have h4 := wk_t h3 (wk_s g)
    rw [Nat.add_comm] at h4
    exact h4
theorem wk_R {N : Int} (hab : ∀ l : Int, 0 ≤ l → l < L → (0 ≤ a l ∧ a l < N) ∧ 0 ≤ b l ∧ b l < N) {p : Int} (hp : 0 ≤ p ∧ p < N) : ∀ {n : Nat} {q : Int}, wk L a b p n q → 0 ≤ q ∧ q < N
  | 0, q, h => by rw [show q = p from h]; exact hp
  | n + 1, q, ⟨s, l, g, h0, h1, h2⟩ => by
    have := hab l h0 h1
    omega
def rch (L : Int) (a b : Int → Int) (p q : Int) : Prop := ∃ n, wk L a b p n q
def evn (L : Int) (a b : Int → Int) (p q : Int) : Prop := ∃ n, wk L a b p (2 * n) q
def odd (L : Int) (a b : Int → Int) (p q : Int) : Prop := ∃ n, wk L a b p (2 * n + 1) q
theorem rch_v {p q : Int} : rch L a b p q ↔ evn L a b p q ∨ odd L a b p q := by
  constructor
  · rintro ⟨n, h⟩
    rcases Nat.mod_two_eq_zero_or_one n with e | e
    · exact Or.inl ⟨n / 2, by rw [show 2 * (n / 2) = n by omega]; exact h⟩
    · exact Or.inr ⟨n / 2, by rw [show 2 * (n / 2) + 1 = n by omega]; exact h⟩
  · rintro (⟨n, h⟩ | ⟨n, h⟩)
    · exact ⟨_, h⟩
    · exact ⟨_, h⟩
theorem evn_1 {p l : Int} (h0 : 0 ≤ l) (h1 : l < L) : (evn L a b p (a l) → odd L a b p (b l)) ∧ (evn L a b p (b l) → odd L a b p (a l)) ∧ (odd L a b p (a l) → evn L a b p (b l)) ∧ (odd L a b p (b l) → evn L a b p (a l)) :=
  ⟨fun ⟨n, h⟩ => ⟨n, (wk_1 h0 h1).1 h⟩, fun ⟨n, h⟩ => ⟨n, (wk_1 h0 h1).2 h⟩, fun ⟨n, h⟩ => ⟨n + 1, (wk_1 h0 h1).1 h⟩, fun ⟨n, h⟩ => ⟨n + 1, (wk_1 h0 h1).2 h⟩⟩
theorem rch_1 {p l : Int} (h0 : 0 ≤ l) (h1 : l < L) : (rch L a b p (a l) → rch L a b p (b l)) ∧ (rch L a b p (b l) → rch L a b p (a l)) :=
  ⟨fun ⟨n, h⟩ => ⟨n + 1, (wk_1 h0 h1).1 h⟩, fun ⟨n, h⟩ => ⟨n + 1, (wk_1 h0 h1).2 h⟩⟩
theorem rch_0 (p : Int) : rch L a b p p := ⟨0, rfl⟩
theorem rch_s {p q : Int} (h : rch L a b p q) : rch L a b q p := h.elim fun n h => ⟨n, wk_s h⟩
theorem rch_t {p q r : Int} (h : rch L a b p q) (g : rch L a b q r) : rch L a b p r := h.elim fun n h => g.elim fun m g => ⟨n + m, wk_t h g⟩
/-- closed, with the start: all that is reached -/
theorem cl_2 {x p : Int} (hp : bit x p) (hc : ∀ l : Int, 0 ≤ l → l < L → (bit x (a l) → bit x (b l + 7)) ∧ (bit x (b l) → bit x (a l + 7)) ∧ (bit x (a l + 7) → bit x (b l)) ∧ (bit x (b l + 7) → bit x (a l))) : ∀ (n : Nat) (q : Int), (wk L a b p (2 * n) q → bit x q) ∧ (wk L a b p (2 * n + 1) q → bit x (q + 7)) := by
  have step : ∀ (n : Nat) (q : Int), (∀ q, wk L a b p (2 * n) q → bit x q) → wk L a b p (2 * n + 1) q → bit x (q + 7) := by
    intro n q h
    rintro ⟨r, l, g, h0, h1, h2⟩
    have hr := h r g
    rcases h2 with ⟨e1, e2⟩ | ⟨e1, e2⟩
    · rw [← e1] at hr
      rw [← e2]
      exact (hc l h0 h1).1 hr
    · rw [← e1] at hr
      rw [← e2]
      exact (hc l h0 h1).2.1 hr
  intro n
  induction n with
  | zero =>
    have h0 : ∀ q, wk L a b p (2 * 0) q → bit x q := fun q h => by rw [show q = p from h]; exact hp
    exact fun q => ⟨h0 q, step 0 q h0⟩
  | succ n ih =>
    have h0 : ∀ q, wk L a b p (2 * (n + 1)) q → bit x q := by
      intro q
      rintro ⟨r, l, g, h0, h1, h2⟩
      have hr := (ih r).2 g
      rcases h2 with ⟨e1, e2⟩ | ⟨e1, e2⟩
      · rw [← e1] at hr
        rw [← e2]
        exact (hc l h0 h1).2.2.1 hr
      · rw [← e1] at hr
        rw [← e2]
        exact (hc l h0 h1).2.2.2 hr
    exact fun q => ⟨h0 q, step (n + 1) q h0⟩
theorem cl_1 {p : Int} {P : Int → Prop} (hp : P p) (hc : ∀ l : Int, 0 ≤ l → l < L → (P (a l) → P (b l)) ∧ (P (b l) → P (a l))) : ∀ {n : Nat} {q : Int}, wk L a b p n q → P q
  | 0, q, h => by rw [show q = p from h]; exact hp
  | n + 1, q, ⟨r, l, g, h0, h1, h2⟩ => by
    have hr := cl_1 hp hc g
    rcases h2 with ⟨e1, e2⟩ | ⟨e1, e2⟩
    · rw [← e1] at hr
      rw [← e2]
      exact (hc l h0 h1).1 hr
    · rw [← e1] at hr
      rw [← e2]
      exact (hc l h0 h1).2 hr
/-- no lesser point hangs together with q -/
def lst (L : Int) (a b : Int → Int) (q : Int) : Prop := ∀ i : Int, 0 ≤ i → i < q → ¬ rch L a b q i
/-- r is the least of those that hang together with q -/
def lsw (L : Int) (a b : Int → Int) (q r : Int) : Prop := 0 ≤ r ∧ rch L a b q r ∧ lst L a b r
theorem lsw_u {q r r' : Int} (h : lsw L a b q r) (h' : lsw L a b q r') : r = r' := by
  obtain ⟨a1, a2, a3⟩ := h
  obtain ⟨b1, b2, b3⟩ := h'
  by_cases c : r < r'
  · exact absurd (rch_t (rch_s b2) a2) (b3 r a1 c)
  · by_cases c2 : r' < r
    · exact absurd (rch_t (rch_s a2) b2) (a3 r' b1 c2)
    · omega
theorem lsw_x : ∀ (n : Nat) (q i : Int), (∀ j : Int, 0 ≤ j → j < i → ¬ rch L a b q j) → 0 ≤ i → i ≤ q → q < i + n → ∃ r, lsw L a b q r ∧ r ≤ q
  | 0, q, i, h, i0, i1, hq => by omega
  | n + 1, q, i, h, i0, i1, hq => by
    by_cases c : rch L a b q i
    · exact ⟨i, ⟨i0, c, fun j j0 j1 z => h j j0 j1 (rch_t c z)⟩, i1⟩
    · have hne : i ≠ q := fun e => c (by rw [e]; exact rch_0 q)
      exact lsw_x n q (i + 1) (fun j j0 j1 => by
        by_cases e : j = i
        · rw [e]; exact c
        · exact h j j0 (by omega)) (by omega) (by omega) (by omega)
theorem lsw_e {q : Int} (hq : 0 ≤ q) : ∃ r, lsw L a b q r ∧ r ≤ q := lsw_x (q.toNat + 1) q 0 (fun j a b => by omega) (by omega) hq (by omega)
def nod (L : Int) (a b : Int → Int) (N : Int) : Prop := ∀ p : Int, 0 ≤ p → p < N → ¬ odd L a b p p
def sid (L : Int) (a b : Int → Int) (q : Int) : Prop := ∃ r, lsw L a b q r ∧ odd L a b r q
/-- two sides along a walk -/
theorem two {S : Int → Prop} (h : ∀ l : Int, 0 ≤ l → l < L → (S (a l) ↔ ¬ S (b l))) {p : Int} : ∀ {n : Nat} {q : Int}, wk L a b p n q → (S q ↔ (S p ↔ n % 2 = 0))
  | 0, q, g => by
    rw [show q = p from g]
    simp
  | n + 1, q, ⟨r, l, g, h0, h1, h2⟩ => by
    have ih := two h g
    have hl := h l h0 h1
    have hn : (n + 1) % 2 = 0 ↔ ¬ n % 2 = 0 := by omega
    rw [hn]
    rcases h2 with ⟨e1, e2⟩ | ⟨e1, e2⟩
    · rw [e1, e2] at hl
      by_cases x : S q <;> by_cases y : S r <;> by_cases z : S p <;> by_cases w : n % 2 = 0 <;> simp_all
    · rw [e1, e2] at hl
      by_cases x : S q <;> by_cases y : S r <;> by_cases z : S p <;> by_cases w : n % 2 = 0 <;> simp_all
theorem odd_n {p q : Int} {n : Nat} (h : wk L a b p n q) (hn : n % 2 = 1) : odd L a b p q := ⟨n / 2, by rw [show 2 * (n / 2) + 1 = n by omega]; exact h⟩
theorem nod_two {S : Int → Prop} {N : Int} (h : ∀ l : Int, 0 ≤ l → l < L → (S (a l) ↔ ¬ S (b l))) : nod L a b N := fun p _ _ ⟨n, g⟩ => by
  have := two h g
  have e : ¬ (2 * n + 1) % 2 = 0 := by omega
  by_cases x : S p <;> simp_all
end WK
/-- a set whose bits are below n -/
theorem pc_hi {x : Int} {n : Nat} (h : ∀ i : Int, (n : Int) ≤ i → ¬ bit x i) : ∀ m : Nat, pc x (n + m) = pc x n
  | 0 => rfl
  | m + 1 => by
    rw [show n + (m + 1) = n + m + 1 by omega, pc_s, pc_hi h m, bP_f (h _ (by omega)), Int.add_zero]
theorem pc_1 {x j : Int} (j0 : 0 ≤ j) (h : bit x j) (n : Nat) (hn : j < n) : 1 ≤ pc x n := by
  have h1 := pc_lt (x := 0) (y := x) (fun i _ b => absurd b (bit_0 i)) j0 (bit_0 j) h n hn
  have h2 := (pc_R 0 n).1
  omega
