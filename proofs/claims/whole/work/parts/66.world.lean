def n4 : Int → Int := fun j => if j = 0 then 4 else 0
def m3 : Int → Int := fun j => if j = 0 then -1 else if j = 1 then -1 else if j = 2 then -1 else 0
/-- the store of new objects -/
def sI : St := fun k => if k = 1 then n4 else if k = 7 then n4 else if k = 13 then n4 else if k = 75 then n4 else if k = 71 then m3 else if k = 85 then m3 else fun _ => 0
def adrL (q : Nat) (u : (Nat → Nat) × (Nat → Nat → Nat → Nat) × (Nat → Nat → Nat → Nat)) (q2 : Nat) (u2 : Nat → Nat → Nat) : List Nat := [q, u.1 0, u.2.1 0 0 0, u.2.1 0 0 1, u.2.1 0 0 2, u.2.1 0 0 3, u.2.1 0 0 4, u.1 1, u.2.1 1 0 0, u.2.1 1 0 1, u.2.1 1 0 2, u.2.1 1 0 3, u.2.1 1 0 4, u.2.2 0 0 1, u.2.2 1 0 0, u.2.2 1 0 1, u.2.2 1 0 2, u.2.2 1 0 3, u.2.2 1 0 4, u.1 2, u.2.1 2 0 0, u.2.1 2 0 1, u.2.1 2 0 2, u.2.1 2 1 0, u.2.1 2 1 1, u.2.1 2 1 2, u.2.1 2 1 3, u.2.1 2 1 4, u.2.1 2 1 5, u.2.1 2 1 6, u.2.1 2 1 7, u.2.1 2 2 0, u.2.1 2 2 1, u.2.1 2 2 2, u.2.1 2 2 3, u.2.1 2 2 4, u.2.1 2 2 5, u.2.1 2 2 6, u.2.1 2 2 7, u.2.1 2 3 0, u.2.1 2 3 1, u.2.1 2 3 2, u.2.1 2 3 3, u.2.1 2 3 4, u.2.1 2 3 5, u.2.1 2 3 6, u.2.1 2 3 7, u.1 3, u.2.1 3 0 0, u.2.1 3 0 1, u.2.1 3 0 2, u.2.1 3 0 3, u.2.1 3 0 4, u.1 4, u.2.1 4 0 0, u.2.1 4 1 0, u.2.1 4 1 1, u.2.1 4 1 2, u.2.1 4 1 3, u.2.1 4 1 4, u.2.1 4 1 5, u.2.1 4 1 6, u.1 5, u.2.2 0 0 0, u.1 6, u.2.1 6 0 0, u.1 7, u.2.1 7 0 0, u.2.1 7 1 0, u.2.1 7 1 1, u.2.1 7 1 2, u.2.1 7 0 1, u.1 8, u.1 9, u.1 10, q2, u2 0 0, u2 0 1, u2 0 2, u2 0 3, u2 0 4, u2 0 5, u2 0 6, u2 0 7, u2 0 8, u2 0 9, u2 0 10, u2 0 11, u2 0 12, u2 0 13, u2 0 14, u2 0 15, u2 0 16, u2 0 17, u2 0 18, u2 0 19, u2 0 20]
def permL : List Nat := [0, 1, 2, 3, 4, 5, 6, 7, 8, 9, 10, 11, 12, 58, 59, 60, 61, 62, 63, 13, 14, 23, 32, 15, 16, 17, 18, 19, 20, 21, 22, 24, 25, 26, 27, 28, 29, 30, 31, 33, 34, 35, 36, 37, 38, 39, 40, 41, 42, 43, 44, 45, 46, 47, 48, 49, 50, 51, 52, 53, 54, 55, 56, 57, 64, 65, 66, 67, 68, 69, 70, 71, 72, 73, 74, 75, 76, 77, 78, 79, 80, 81, 82, 83, 84, 85, 86, 87, 88, 89, 90, 91, 92, 93, 94, 95, 96]
def invL : List Nat := [0, 1, 2, 3, 4, 5, 6, 7, 8, 9, 10, 11, 12, 19, 20, 23, 24, 25, 26, 27, 28, 29, 30, 21, 31, 32, 33, 34, 35, 36, 37, 38, 22, 39, 40, 41, 42, 43, 44, 45, 46, 47, 48, 49, 50, 51, 52, 53, 54, 55, 56, 57, 58, 59, 60, 61, 62, 63, 13, 14, 15, 16, 17, 18, 64, 65, 66, 67, 68, 69, 70, 71, 72, 73, 74, 75, 76, 77, 78, 79, 80, 81, 82, 83, 84, 85, 86, 87, 88, 89, 90, 91, 92, 93, 94, 95, 96]
def VI (D : va_G) (g : Nat → ClassId) (base t : Nat) (q : Nat) (u : (Nat → Nat) × (Nat → Nat → Nat → Nat) × (Nat → Nat → Nat → Nat)) (q2 : Nat) (u2 : Nat → Nat → Nat) : Wd := (D, fun k => (adrL q u q2 u2).getD k 0, g, base, t)
def wsI (g : Nat → ClassId) (q : Nat) (u : (Nat → Nat) × (Nat → Nat → Nat → Nat) × (Nat → Nat → Nat → Nat)) (q2 : Nat) (u2 : Nat → Nat → Nat) : va_W := (([] : va_W) ++ wX9 g q u) ++ wX10 g q2 u2
theorem perm_i : ∀ i, i < 97 → invL.getD (permL.getD i 0) 0 = i := by decide +kernel
theorem rowsf {r f : Nat → Nat} {n : Nat} (h : ∀ i, i < n → r i = f i) : (fun i => if i < n then some (r i) else none) = (fun i => if i < n then some (f i) else none) := by
  funext i
  by_cases c : i < n
  · rw [if_pos c, if_pos c, h i c]
  · rw [if_neg c, if_neg c]
theorem updf : upd (upd (upd (fun _ => 0) 0 (Int32.ofInt (-1))) 1 (Int32.ofInt (-1))) 2 (Int32.ofInt (-1)) = fun i : Nat => Int32.ofInt (m3 (i : Int)) := by
  funext i
  unfold upd m3
  by_cases c2 : i = 2
  · subst c2; rfl
  · by_cases c1 : i = 1
    · subst c1; rfl
    · by_cases c0 : i = 0
      · subst c0; rfl
      · rw [if_neg c2, if_neg c1, if_neg c0, if_neg (by omega), if_neg (by omega), if_neg (by omega)]
        rfl
theorem ioI_3 (g : Nat → ClassId) (q : Nat) (r : Nat → Nat) : ioI g 3 40 q r = [(q, .inl (g 2, 3, .inr (.inr (.inr (.inr (fun i => if i < 3 then some (r i) else none)))))), (r 0, zI g 40), (r 1, zI g 40), (r 2, zI g 40)] := rfl
theorem ioI_8 (g : Nat → ClassId) (q : Nat) (r : Nat → Nat) : ioI g 8 8 q r = [(q, .inl (g 2, 8, .inr (.inr (.inr (.inr (fun i => if i < 8 then some (r i) else none)))))), (r 0, zI g 8), (r 1, zI g 8), (r 2, zI g 8), (r 3, zI g 8), (r 4, zI g 8), (r 5, zI g 8), (r 6, zI g 8), (r 7, zI g 8)] := rfl
theorem ioJ_7 (g : Nat → ClassId) (q : Nat) (r : Nat → Nat) : ioJ g 7 8 q r = [(q, .inl (g 3, 7, .inr (.inr (.inr (.inr (fun i => if i < 7 then some (r i) else none)))))), (r 0, zJ g 8), (r 1, zJ g 8), (r 2, zJ g 8), (r 3, zJ g 8), (r 4, zJ g 8), (r 5, zJ g 8), (r 6, zJ g 8)] := rfl
def wsL (g : Nat → ClassId) (q : Nat) (u : (Nat → Nat) × (Nat → Nat → Nat → Nat) × (Nat → Nat → Nat → Nat)) (q2 : Nat) (u2 : Nat → Nat → Nat) : va_W := [(q, .inr (0, [.ref (u.1 0), .ref (u.1 1), iv (0), .ref (u.1 2), .ref (u.1 3), .ref (u.1 4), .ref (u.1 5), .ref (u.1 6), .ref (u.1 7), .ref (u.1 8), .ref (u.1 9), .ref (u.1 10)])),
  ((u.1 0), .inr (1, [iv (4), iv (0), .ref ((u.2.1 0) 0 0), .ref ((u.2.1 0) 0 1), .ref ((u.2.1 0) 0 2), .ref ((u.2.1 0) 0 3), .ref ((u.2.1 0) 0 4)])),
  (((u.2.1 0) 0 0), zI g 8),
  (((u.2.1 0) 0 1), zI g 8),
  (((u.2.1 0) 0 2), zI g 8),
  (((u.2.1 0) 0 3), zI g 8),
  (((u.2.1 0) 0 4), zI g 8),
  ((u.1 1), .inr (1, [iv (4), iv (0), .ref ((u.2.1 1) 0 0), .ref ((u.2.1 1) 0 1), .ref ((u.2.1 1) 0 2), .ref ((u.2.1 1) 0 3), .ref ((u.2.1 1) 0 4)])),
  (((u.2.1 1) 0 0), zI g 8),
  (((u.2.1 1) 0 1), zI g 8),
  (((u.2.1 1) 0 2), zI g 8),
  (((u.2.1 1) 0 3), zI g 8),
  (((u.2.1 1) 0 4), zI g 8),
  ((u.1 2), .inr (2, [.ref ((u.2.1 2) 0 0), .ref ((u.2.1 2) 0 1), .ref ((u.2.1 2) 0 2), iv (0), iv (0)])),
  (((u.2.1 2) 0 0), .inl (g 2, 8, .inr (.inr (.inr (.inr (fun i => if i < 8 then some (((u.2.1 2) 1) i) else none)))))),
  (((u.2.1 2) 1) 0, zI g 8),
  (((u.2.1 2) 1) 1, zI g 8),
  (((u.2.1 2) 1) 2, zI g 8),
  (((u.2.1 2) 1) 3, zI g 8),
  (((u.2.1 2) 1) 4, zI g 8),
  (((u.2.1 2) 1) 5, zI g 8),
  (((u.2.1 2) 1) 6, zI g 8),
  (((u.2.1 2) 1) 7, zI g 8),
  (((u.2.1 2) 0 1), .inl (g 2, 8, .inr (.inr (.inr (.inr (fun i => if i < 8 then some (((u.2.1 2) 2) i) else none)))))),
  (((u.2.1 2) 2) 0, zI g 8),
  (((u.2.1 2) 2) 1, zI g 8),
  (((u.2.1 2) 2) 2, zI g 8),
  (((u.2.1 2) 2) 3, zI g 8),
  (((u.2.1 2) 2) 4, zI g 8),
  (((u.2.1 2) 2) 5, zI g 8),
  (((u.2.1 2) 2) 6, zI g 8),
  (((u.2.1 2) 2) 7, zI g 8),
  (((u.2.1 2) 0 2), .inl (g 2, 8, .inr (.inr (.inr (.inr (fun i => if i < 8 then some (((u.2.1 2) 3) i) else none)))))),
  (((u.2.1 2) 3) 0, zI g 8),
  (((u.2.1 2) 3) 1, zI g 8),
  (((u.2.1 2) 3) 2, zI g 8),
  (((u.2.1 2) 3) 3, zI g 8),
  (((u.2.1 2) 3) 4, zI g 8),
  (((u.2.1 2) 3) 5, zI g 8),
  (((u.2.1 2) 3) 6, zI g 8),
  (((u.2.1 2) 3) 7, zI g 8),
  ((u.1 3), .inr (3, [.ref (u.1 0), .ref ((u.2.1 3) 0 0), .ref ((u.2.1 3) 0 1), .ref ((u.2.1 3) 0 2), .ref ((u.2.1 3) 0 3), .ref ((u.2.1 3) 0 4), iv (0), iv (0)])),
  (((u.2.1 3) 0 0), zI g 8),
  (((u.2.1 3) 0 1), zI g 7),
  (((u.2.1 3) 0 2), zI g 8),
  (((u.2.1 3) 0 3), zI g 8),
  (((u.2.1 3) 0 4), zI g 7),
  ((u.1 4), .inr (4, [.ref (u.1 0), .ref ((u.2.1 4) 0 0)])),
  (((u.2.1 4) 0 0), .inl (g 3, 7, .inr (.inr (.inr (.inr (fun i => if i < 7 then some (((u.2.1 4) 1) i) else none)))))),
  (((u.2.1 4) 1) 0, zJ g 8),
  (((u.2.1 4) 1) 1, zJ g 8),
  (((u.2.1 4) 1) 2, zJ g 8),
  (((u.2.1 4) 1) 3, zJ g 8),
  (((u.2.1 4) 1) 4, zJ g 8),
  (((u.2.1 4) 1) 5, zJ g 8),
  (((u.2.1 4) 1) 6, zJ g 8),
  ((u.1 5), .inr (5, [.ref (u.2.2 0 0 0), .ref (u.2.2 0 0 1), iv (0)])),
  ((u.2.2 0 0 0), zI g 72),
  ((u.2.2 0 0 1), .inr (1, [iv (4), iv (0), .ref ((u.2.2 1) 0 0), .ref ((u.2.2 1) 0 1), .ref ((u.2.2 1) 0 2), .ref ((u.2.2 1) 0 3), .ref ((u.2.2 1) 0 4)])),
  (((u.2.2 1) 0 0), zI g 8),
  (((u.2.2 1) 0 1), zI g 8),
  (((u.2.2 1) 0 2), zI g 8),
  (((u.2.2 1) 0 3), zI g 8),
  (((u.2.2 1) 0 4), zI g 8),
  ((u.1 6), .inr (6, [.ref ((u.2.1 6) 0 0), iv (0)])),
  (((u.2.1 6) 0 0), zI g 115),
  ((u.1 7), .inr (7, [.ref ((u.2.1 7) 0 0), .ref ((u.2.1 7) 0 1)])),
  (((u.2.1 7) 0 0), .inl (g 2, 3, .inr (.inr (.inr (.inr (fun i => if i < 3 then some (((u.2.1 7) 1) i) else none)))))),
  (((u.2.1 7) 1) 0, zI g 40),
  (((u.2.1 7) 1) 1, zI g 40),
  (((u.2.1 7) 1) 2, zI g 40),
  (((u.2.1 7) 0 1), .inl (g 0, 3, .inl (upd (upd (upd (fun _ => 0) (Int.toNat (0)) (Int32.ofInt (-1))) (Int.toNat ((0 + 1))) (Int32.ofInt (-1))) (Int.toNat (((0 + 1) + 1))) (Int32.ofInt (-1))))),
  ((u.1 8), zI g 7),
  ((u.1 9), zI g 7),
  ((u.1 10), zI g 7),
  (q2, .inr (8, [iv (4), iv 0, .ref (u2 0 0), .ref (u2 0 1), .ref (u2 0 2), .ref (u2 0 3), .ref (u2 0 4), iv 0, .ref (u2 0 5), .ref (u2 0 6), .ref (u2 0 7), .ref (u2 0 8), iv 0, .ref (u2 0 9), .ref (u2 0 10), .ref (u2 0 11), .ref (u2 0 12), .ref (u2 0 13), .ref (u2 0 14), .ref (u2 0 15), iv 0, .ref (u2 0 16), iv 0, .ref (u2 0 17), iv 0, .ref (u2 0 18), iv 0, .ref (u2 0 19), .ref (u2 0 20)])),
  ((u2 0 0), zI g 8),
  ((u2 0 1), zI g 8),
  ((u2 0 2), zI g 8),
  ((u2 0 3), zI g 8),
  ((u2 0 4), zI g 8),
  ((u2 0 5), zI g 64),
  ((u2 0 6), zI g 64),
  ((u2 0 7), zI g 64),
  ((u2 0 8), zI g 72),
  ((u2 0 9), .inl (g 0, 3, .inl (upd (upd (upd (fun _ => 0) (Int.toNat (0)) (Int32.ofInt (-1))) (Int.toNat (1)) (Int32.ofInt (-1))) (Int.toNat (2)) (Int32.ofInt (-1))))),
  ((u2 0 10), zI g 120),
  ((u2 0 11), zI g 7),
  ((u2 0 12), zI g 8),
  ((u2 0 13), zI g 7),
  ((u2 0 14), zI g 56),
  ((u2 0 15), zI g 7),
  ((u2 0 16), zJ g 56),
  ((u2 0 17), zI g 120),
  ((u2 0 18), zI g 7),
  ((u2 0 19), zI g 42),
  ((u2 0 20), zI g 42)]
theorem wsI_eq (g : Nat → ClassId) (q : Nat) (u : (Nat → Nat) × (Nat → Nat → Nat → Nat) × (Nat → Nat → Nat → Nat)) (q2 : Nat) (u2 : Nat → Nat → Nat) : wsI g q u q2 u2 = wsL g q u q2 u2 := by
  simp only [wsI, wX9, wX10, wX3, wX4, wX7, wX6, wX8, wX2, wX1, ioI_3, ioI_8, ioJ_7, wsL, List.nil_append, List.cons_append, List.append_assoc]
def WP (D : va_G) (g : Nat → ClassId) (base t : Nat) (q : Nat) (u : (Nat → Nat) × (Nat → Nat → Nat → Nat) × (Nat → Nat → Nat → Nat)) (q2 : Nat) (u2 : Nat → Nat → Nat) (k : Nat) : Prop := (wsL g q u q2 u2)[permL.getD k 0]? = some ((VI D g base t q u q2 u2).2.1 k, ent (VI D g base t q u q2 u2) sI k)
theorem lt_next {P : Nat → Prop} {n : Nat} (h : ∀ k, k < n → P k) (hn : P n) : ∀ k, k < n + 1 → P k := fun k hk => by
  rcases Nat.lt_or_ge k n with c | c
  · exact h k c
  · rw [show k = n by omega]
    exact hn
section WI
variable {D : va_G} {g : Nat → ClassId} {base t q q2 : Nat} {u : (Nat → Nat) × (Nat → Nat → Nat → Nat) × (Nat → Nat → Nat → Nat)} {u2 : Nat → Nat → Nat}
theorem wl0 : WP D g base t q u q2 u2 0 := (rfl : some ((q, .inr (0, [.ref (u.1 0), .ref (u.1 1), iv (0), .ref (u.1 2), .ref (u.1 3), .ref (u.1 4), .ref (u.1 5), .ref (u.1 6), .ref (u.1 7), .ref (u.1 8), .ref (u.1 9), .ref (u.1 10)])) : Nat × va_E) = some ((VI D g base t q u q2 u2).2.1 0, ent (VI D g base t q u q2 u2) sI 0))
theorem wl1 : WP D g base t q u q2 u2 1 := (rfl : some (((u.1 0), .inr (1, [iv (4), iv (0), .ref ((u.2.1 0) 0 0), .ref ((u.2.1 0) 0 1), .ref ((u.2.1 0) 0 2), .ref ((u.2.1 0) 0 3), .ref ((u.2.1 0) 0 4)])) : Nat × va_E) = some ((VI D g base t q u q2 u2).2.1 1, ent (VI D g base t q u q2 u2) sI 1))
theorem wl2 : WP D g base t q u q2 u2 2 := (rfl : some ((((u.2.1 0) 0 0), zI g 8) : Nat × va_E) = some ((VI D g base t q u q2 u2).2.1 2, ent (VI D g base t q u q2 u2) sI 2))
theorem wl3 : WP D g base t q u q2 u2 3 := (rfl : some ((((u.2.1 0) 0 1), zI g 8) : Nat × va_E) = some ((VI D g base t q u q2 u2).2.1 3, ent (VI D g base t q u q2 u2) sI 3))
theorem wl4 : WP D g base t q u q2 u2 4 := (rfl : some ((((u.2.1 0) 0 2), zI g 8) : Nat × va_E) = some ((VI D g base t q u q2 u2).2.1 4, ent (VI D g base t q u q2 u2) sI 4))
theorem wl5 : WP D g base t q u q2 u2 5 := (rfl : some ((((u.2.1 0) 0 3), zI g 8) : Nat × va_E) = some ((VI D g base t q u q2 u2).2.1 5, ent (VI D g base t q u q2 u2) sI 5))
theorem wl6 : WP D g base t q u q2 u2 6 := (rfl : some ((((u.2.1 0) 0 4), zI g 8) : Nat × va_E) = some ((VI D g base t q u q2 u2).2.1 6, ent (VI D g base t q u q2 u2) sI 6))
theorem wl7 : WP D g base t q u q2 u2 7 := (rfl : some (((u.1 1), .inr (1, [iv (4), iv (0), .ref ((u.2.1 1) 0 0), .ref ((u.2.1 1) 0 1), .ref ((u.2.1 1) 0 2), .ref ((u.2.1 1) 0 3), .ref ((u.2.1 1) 0 4)])) : Nat × va_E) = some ((VI D g base t q u q2 u2).2.1 7, ent (VI D g base t q u q2 u2) sI 7))
theorem wl8 : WP D g base t q u q2 u2 8 := (rfl : some ((((u.2.1 1) 0 0), zI g 8) : Nat × va_E) = some ((VI D g base t q u q2 u2).2.1 8, ent (VI D g base t q u q2 u2) sI 8))
theorem wl9 : WP D g base t q u q2 u2 9 := (rfl : some ((((u.2.1 1) 0 1), zI g 8) : Nat × va_E) = some ((VI D g base t q u q2 u2).2.1 9, ent (VI D g base t q u q2 u2) sI 9))
theorem wl10 : WP D g base t q u q2 u2 10 := (rfl : some ((((u.2.1 1) 0 2), zI g 8) : Nat × va_E) = some ((VI D g base t q u q2 u2).2.1 10, ent (VI D g base t q u q2 u2) sI 10))
theorem wl11 : WP D g base t q u q2 u2 11 := (rfl : some ((((u.2.1 1) 0 3), zI g 8) : Nat × va_E) = some ((VI D g base t q u q2 u2).2.1 11, ent (VI D g base t q u q2 u2) sI 11))
theorem wl12 : WP D g base t q u q2 u2 12 := (rfl : some ((((u.2.1 1) 0 4), zI g 8) : Nat × va_E) = some ((VI D g base t q u q2 u2).2.1 12, ent (VI D g base t q u q2 u2) sI 12))
theorem wl13 : WP D g base t q u q2 u2 13 := (rfl : some (((u.2.2 0 0 1), .inr (1, [iv (4), iv (0), .ref ((u.2.2 1) 0 0), .ref ((u.2.2 1) 0 1), .ref ((u.2.2 1) 0 2), .ref ((u.2.2 1) 0 3), .ref ((u.2.2 1) 0 4)])) : Nat × va_E) = some ((VI D g base t q u q2 u2).2.1 13, ent (VI D g base t q u q2 u2) sI 13))
theorem wl14 : WP D g base t q u q2 u2 14 := (rfl : some ((((u.2.2 1) 0 0), zI g 8) : Nat × va_E) = some ((VI D g base t q u q2 u2).2.1 14, ent (VI D g base t q u q2 u2) sI 14))
theorem wl15 : WP D g base t q u q2 u2 15 := (rfl : some ((((u.2.2 1) 0 1), zI g 8) : Nat × va_E) = some ((VI D g base t q u q2 u2).2.1 15, ent (VI D g base t q u q2 u2) sI 15))
theorem wl16 : WP D g base t q u q2 u2 16 := (rfl : some ((((u.2.2 1) 0 2), zI g 8) : Nat × va_E) = some ((VI D g base t q u q2 u2).2.1 16, ent (VI D g base t q u q2 u2) sI 16))
theorem wl17 : WP D g base t q u q2 u2 17 := (rfl : some ((((u.2.2 1) 0 3), zI g 8) : Nat × va_E) = some ((VI D g base t q u q2 u2).2.1 17, ent (VI D g base t q u q2 u2) sI 17))
theorem wl18 : WP D g base t q u q2 u2 18 := (rfl : some ((((u.2.2 1) 0 4), zI g 8) : Nat × va_E) = some ((VI D g base t q u q2 u2).2.1 18, ent (VI D g base t q u q2 u2) sI 18))
theorem wl19 : WP D g base t q u q2 u2 19 := (rfl : some (((u.1 2), .inr (2, [.ref ((u.2.1 2) 0 0), .ref ((u.2.1 2) 0 1), .ref ((u.2.1 2) 0 2), iv (0), iv (0)])) : Nat × va_E) = some ((VI D g base t q u q2 u2).2.1 19, ent (VI D g base t q u q2 u2) sI 19))
theorem wl20 : WP D g base t q u q2 u2 20 := congrArg (fun F => some (u.2.1 2 0 0, (Sum.inl (g 2, 8, .inr (.inr (.inr (.inr F)))) : va_E))) (rowsf (r := u.2.1 2 1) (f := fun i => (VI D g base t q u q2 u2).2.1 (23 + i)) (fun i hi => by rcases (show i = 0 ∨ i = 1 ∨ i = 2 ∨ i = 3 ∨ i = 4 ∨ i = 5 ∨ i = 6 ∨ i = 7 by omega) with rfl | rfl | rfl | rfl | rfl | rfl | rfl | rfl <;> rfl))
theorem wl21 : WP D g base t q u q2 u2 21 := congrArg (fun F => some (u.2.1 2 0 1, (Sum.inl (g 2, 8, .inr (.inr (.inr (.inr F)))) : va_E))) (rowsf (r := u.2.1 2 2) (f := fun i => (VI D g base t q u q2 u2).2.1 (31 + i)) (fun i hi => by rcases (show i = 0 ∨ i = 1 ∨ i = 2 ∨ i = 3 ∨ i = 4 ∨ i = 5 ∨ i = 6 ∨ i = 7 by omega) with rfl | rfl | rfl | rfl | rfl | rfl | rfl | rfl <;> rfl))
theorem wl22 : WP D g base t q u q2 u2 22 := congrArg (fun F => some (u.2.1 2 0 2, (Sum.inl (g 2, 8, .inr (.inr (.inr (.inr F)))) : va_E))) (rowsf (r := u.2.1 2 3) (f := fun i => (VI D g base t q u q2 u2).2.1 (39 + i)) (fun i hi => by rcases (show i = 0 ∨ i = 1 ∨ i = 2 ∨ i = 3 ∨ i = 4 ∨ i = 5 ∨ i = 6 ∨ i = 7 by omega) with rfl | rfl | rfl | rfl | rfl | rfl | rfl | rfl <;> rfl))
theorem wl23 : WP D g base t q u q2 u2 23 := (rfl : some ((((u.2.1 2) 1) 0, zI g 8) : Nat × va_E) = some ((VI D g base t q u q2 u2).2.1 23, ent (VI D g base t q u q2 u2) sI 23))
theorem wl24 : WP D g base t q u q2 u2 24 := (rfl : some ((((u.2.1 2) 1) 1, zI g 8) : Nat × va_E) = some ((VI D g base t q u q2 u2).2.1 24, ent (VI D g base t q u q2 u2) sI 24))
theorem wl25 : WP D g base t q u q2 u2 25 := (rfl : some ((((u.2.1 2) 1) 2, zI g 8) : Nat × va_E) = some ((VI D g base t q u q2 u2).2.1 25, ent (VI D g base t q u q2 u2) sI 25))
theorem wl26 : WP D g base t q u q2 u2 26 := (rfl : some ((((u.2.1 2) 1) 3, zI g 8) : Nat × va_E) = some ((VI D g base t q u q2 u2).2.1 26, ent (VI D g base t q u q2 u2) sI 26))
theorem wl27 : WP D g base t q u q2 u2 27 := (rfl : some ((((u.2.1 2) 1) 4, zI g 8) : Nat × va_E) = some ((VI D g base t q u q2 u2).2.1 27, ent (VI D g base t q u q2 u2) sI 27))
theorem wl28 : WP D g base t q u q2 u2 28 := (rfl : some ((((u.2.1 2) 1) 5, zI g 8) : Nat × va_E) = some ((VI D g base t q u q2 u2).2.1 28, ent (VI D g base t q u q2 u2) sI 28))
theorem wl29 : WP D g base t q u q2 u2 29 := (rfl : some ((((u.2.1 2) 1) 6, zI g 8) : Nat × va_E) = some ((VI D g base t q u q2 u2).2.1 29, ent (VI D g base t q u q2 u2) sI 29))
theorem wl30 : WP D g base t q u q2 u2 30 := (rfl : some ((((u.2.1 2) 1) 7, zI g 8) : Nat × va_E) = some ((VI D g base t q u q2 u2).2.1 30, ent (VI D g base t q u q2 u2) sI 30))
theorem wl31 : WP D g base t q u q2 u2 31 := (rfl : some ((((u.2.1 2) 2) 0, zI g 8) : Nat × va_E) = some ((VI D g base t q u q2 u2).2.1 31, ent (VI D g base t q u q2 u2) sI 31))
theorem wl32 : WP D g base t q u q2 u2 32 := (rfl : some ((((u.2.1 2) 2) 1, zI g 8) : Nat × va_E) = some ((VI D g base t q u q2 u2).2.1 32, ent (VI D g base t q u q2 u2) sI 32))
theorem wl33 : WP D g base t q u q2 u2 33 := (rfl : some ((((u.2.1 2) 2) 2, zI g 8) : Nat × va_E) = some ((VI D g base t q u q2 u2).2.1 33, ent (VI D g base t q u q2 u2) sI 33))
theorem wl34 : WP D g base t q u q2 u2 34 := (rfl : some ((((u.2.1 2) 2) 3, zI g 8) : Nat × va_E) = some ((VI D g base t q u q2 u2).2.1 34, ent (VI D g base t q u q2 u2) sI 34))
theorem wl35 : WP D g base t q u q2 u2 35 := (rfl : some ((((u.2.1 2) 2) 4, zI g 8) : Nat × va_E) = some ((VI D g base t q u q2 u2).2.1 35, ent (VI D g base t q u q2 u2) sI 35))
theorem wl36 : WP D g base t q u q2 u2 36 := (rfl : some ((((u.2.1 2) 2) 5, zI g 8) : Nat × va_E) = some ((VI D g base t q u q2 u2).2.1 36, ent (VI D g base t q u q2 u2) sI 36))
theorem wl37 : WP D g base t q u q2 u2 37 := (rfl : some ((((u.2.1 2) 2) 6, zI g 8) : Nat × va_E) = some ((VI D g base t q u q2 u2).2.1 37, ent (VI D g base t q u q2 u2) sI 37))
theorem wl38 : WP D g base t q u q2 u2 38 := (rfl : some ((((u.2.1 2) 2) 7, zI g 8) : Nat × va_E) = some ((VI D g base t q u q2 u2).2.1 38, ent (VI D g base t q u q2 u2) sI 38))
theorem wl39 : WP D g base t q u q2 u2 39 := (rfl : some ((((u.2.1 2) 3) 0, zI g 8) : Nat × va_E) = some ((VI D g base t q u q2 u2).2.1 39, ent (VI D g base t q u q2 u2) sI 39))
theorem wl40 : WP D g base t q u q2 u2 40 := (rfl : some ((((u.2.1 2) 3) 1, zI g 8) : Nat × va_E) = some ((VI D g base t q u q2 u2).2.1 40, ent (VI D g base t q u q2 u2) sI 40))
theorem wl41 : WP D g base t q u q2 u2 41 := (rfl : some ((((u.2.1 2) 3) 2, zI g 8) : Nat × va_E) = some ((VI D g base t q u q2 u2).2.1 41, ent (VI D g base t q u q2 u2) sI 41))
theorem wl42 : WP D g base t q u q2 u2 42 := (rfl : some ((((u.2.1 2) 3) 3, zI g 8) : Nat × va_E) = some ((VI D g base t q u q2 u2).2.1 42, ent (VI D g base t q u q2 u2) sI 42))
theorem wl43 : WP D g base t q u q2 u2 43 := (rfl : some ((((u.2.1 2) 3) 4, zI g 8) : Nat × va_E) = some ((VI D g base t q u q2 u2).2.1 43, ent (VI D g base t q u q2 u2) sI 43))
theorem wl44 : WP D g base t q u q2 u2 44 := (rfl : some ((((u.2.1 2) 3) 5, zI g 8) : Nat × va_E) = some ((VI D g base t q u q2 u2).2.1 44, ent (VI D g base t q u q2 u2) sI 44))
theorem wl45 : WP D g base t q u q2 u2 45 := (rfl : some ((((u.2.1 2) 3) 6, zI g 8) : Nat × va_E) = some ((VI D g base t q u q2 u2).2.1 45, ent (VI D g base t q u q2 u2) sI 45))
theorem wl46 : WP D g base t q u q2 u2 46 := (rfl : some ((((u.2.1 2) 3) 7, zI g 8) : Nat × va_E) = some ((VI D g base t q u q2 u2).2.1 46, ent (VI D g base t q u q2 u2) sI 46))
theorem wl47 : WP D g base t q u q2 u2 47 := (rfl : some (((u.1 3), .inr (3, [.ref (u.1 0), .ref ((u.2.1 3) 0 0), .ref ((u.2.1 3) 0 1), .ref ((u.2.1 3) 0 2), .ref ((u.2.1 3) 0 3), .ref ((u.2.1 3) 0 4), iv (0), iv (0)])) : Nat × va_E) = some ((VI D g base t q u q2 u2).2.1 47, ent (VI D g base t q u q2 u2) sI 47))
theorem wl48 : WP D g base t q u q2 u2 48 := (rfl : some ((((u.2.1 3) 0 0), zI g 8) : Nat × va_E) = some ((VI D g base t q u q2 u2).2.1 48, ent (VI D g base t q u q2 u2) sI 48))
theorem wl49 : WP D g base t q u q2 u2 49 := (rfl : some ((((u.2.1 3) 0 1), zI g 7) : Nat × va_E) = some ((VI D g base t q u q2 u2).2.1 49, ent (VI D g base t q u q2 u2) sI 49))
theorem wl50 : WP D g base t q u q2 u2 50 := (rfl : some ((((u.2.1 3) 0 2), zI g 8) : Nat × va_E) = some ((VI D g base t q u q2 u2).2.1 50, ent (VI D g base t q u q2 u2) sI 50))
theorem wl51 : WP D g base t q u q2 u2 51 := (rfl : some ((((u.2.1 3) 0 3), zI g 8) : Nat × va_E) = some ((VI D g base t q u q2 u2).2.1 51, ent (VI D g base t q u q2 u2) sI 51))
theorem wl52 : WP D g base t q u q2 u2 52 := (rfl : some ((((u.2.1 3) 0 4), zI g 7) : Nat × va_E) = some ((VI D g base t q u q2 u2).2.1 52, ent (VI D g base t q u q2 u2) sI 52))
theorem wl53 : WP D g base t q u q2 u2 53 := (rfl : some (((u.1 4), .inr (4, [.ref (u.1 0), .ref ((u.2.1 4) 0 0)])) : Nat × va_E) = some ((VI D g base t q u q2 u2).2.1 53, ent (VI D g base t q u q2 u2) sI 53))
theorem wl54 : WP D g base t q u q2 u2 54 := congrArg (fun F => some (u.2.1 4 0 0, (Sum.inl (g 3, 7, .inr (.inr (.inr (.inr F)))) : va_E))) (rowsf (r := u.2.1 4 1) (f := fun i => (VI D g base t q u q2 u2).2.1 (55 + i)) (fun i hi => by rcases (show i = 0 ∨ i = 1 ∨ i = 2 ∨ i = 3 ∨ i = 4 ∨ i = 5 ∨ i = 6 by omega) with rfl | rfl | rfl | rfl | rfl | rfl | rfl <;> rfl))
theorem wl55 : WP D g base t q u q2 u2 55 := (rfl : some ((((u.2.1 4) 1) 0, zJ g 8) : Nat × va_E) = some ((VI D g base t q u q2 u2).2.1 55, ent (VI D g base t q u q2 u2) sI 55))
theorem wl56 : WP D g base t q u q2 u2 56 := (rfl : some ((((u.2.1 4) 1) 1, zJ g 8) : Nat × va_E) = some ((VI D g base t q u q2 u2).2.1 56, ent (VI D g base t q u q2 u2) sI 56))
theorem wl57 : WP D g base t q u q2 u2 57 := (rfl : some ((((u.2.1 4) 1) 2, zJ g 8) : Nat × va_E) = some ((VI D g base t q u q2 u2).2.1 57, ent (VI D g base t q u q2 u2) sI 57))
theorem wl58 : WP D g base t q u q2 u2 58 := (rfl : some ((((u.2.1 4) 1) 3, zJ g 8) : Nat × va_E) = some ((VI D g base t q u q2 u2).2.1 58, ent (VI D g base t q u q2 u2) sI 58))
theorem wl59 : WP D g base t q u q2 u2 59 := (rfl : some ((((u.2.1 4) 1) 4, zJ g 8) : Nat × va_E) = some ((VI D g base t q u q2 u2).2.1 59, ent (VI D g base t q u q2 u2) sI 59))
theorem wl60 : WP D g base t q u q2 u2 60 := (rfl : some ((((u.2.1 4) 1) 5, zJ g 8) : Nat × va_E) = some ((VI D g base t q u q2 u2).2.1 60, ent (VI D g base t q u q2 u2) sI 60))
theorem wl61 : WP D g base t q u q2 u2 61 := (rfl : some ((((u.2.1 4) 1) 6, zJ g 8) : Nat × va_E) = some ((VI D g base t q u q2 u2).2.1 61, ent (VI D g base t q u q2 u2) sI 61))
theorem wl62 : WP D g base t q u q2 u2 62 := (rfl : some (((u.1 5), .inr (5, [.ref (u.2.2 0 0 0), .ref (u.2.2 0 0 1), iv (0)])) : Nat × va_E) = some ((VI D g base t q u q2 u2).2.1 62, ent (VI D g base t q u q2 u2) sI 62))
theorem wl63 : WP D g base t q u q2 u2 63 := (rfl : some (((u.2.2 0 0 0), zI g 72) : Nat × va_E) = some ((VI D g base t q u q2 u2).2.1 63, ent (VI D g base t q u q2 u2) sI 63))
theorem wl64 : WP D g base t q u q2 u2 64 := (rfl : some (((u.1 6), .inr (6, [.ref ((u.2.1 6) 0 0), iv (0)])) : Nat × va_E) = some ((VI D g base t q u q2 u2).2.1 64, ent (VI D g base t q u q2 u2) sI 64))
theorem wl65 : WP D g base t q u q2 u2 65 := (rfl : some ((((u.2.1 6) 0 0), zI g 115) : Nat × va_E) = some ((VI D g base t q u q2 u2).2.1 65, ent (VI D g base t q u q2 u2) sI 65))
theorem wl66 : WP D g base t q u q2 u2 66 := (rfl : some (((u.1 7), .inr (7, [.ref ((u.2.1 7) 0 0), .ref ((u.2.1 7) 0 1)])) : Nat × va_E) = some ((VI D g base t q u q2 u2).2.1 66, ent (VI D g base t q u q2 u2) sI 66))
theorem wl67 : WP D g base t q u q2 u2 67 := congrArg (fun F => some (u.2.1 7 0 0, (Sum.inl (g 2, 3, .inr (.inr (.inr (.inr F)))) : va_E))) (rowsf (r := u.2.1 7 1) (f := fun i => (VI D g base t q u q2 u2).2.1 (68 + i)) (fun i hi => by rcases (show i = 0 ∨ i = 1 ∨ i = 2 by omega) with rfl | rfl | rfl <;> rfl))
theorem wl68 : WP D g base t q u q2 u2 68 := (rfl : some ((((u.2.1 7) 1) 0, zI g 40) : Nat × va_E) = some ((VI D g base t q u q2 u2).2.1 68, ent (VI D g base t q u q2 u2) sI 68))
theorem wl69 : WP D g base t q u q2 u2 69 := (rfl : some ((((u.2.1 7) 1) 1, zI g 40) : Nat × va_E) = some ((VI D g base t q u q2 u2).2.1 69, ent (VI D g base t q u q2 u2) sI 69))
theorem wl70 : WP D g base t q u q2 u2 70 := (rfl : some ((((u.2.1 7) 1) 2, zI g 40) : Nat × va_E) = some ((VI D g base t q u q2 u2).2.1 70, ent (VI D g base t q u q2 u2) sI 70))
theorem wl71 : WP D g base t q u q2 u2 71 := congrArg (fun F => some (u.2.1 7 0 1, (Sum.inl (g 0, 3, .inl F) : va_E))) updf
theorem wl72 : WP D g base t q u q2 u2 72 := (rfl : some (((u.1 8), zI g 7) : Nat × va_E) = some ((VI D g base t q u q2 u2).2.1 72, ent (VI D g base t q u q2 u2) sI 72))
theorem wl73 : WP D g base t q u q2 u2 73 := (rfl : some (((u.1 9), zI g 7) : Nat × va_E) = some ((VI D g base t q u q2 u2).2.1 73, ent (VI D g base t q u q2 u2) sI 73))
theorem wl74 : WP D g base t q u q2 u2 74 := (rfl : some (((u.1 10), zI g 7) : Nat × va_E) = some ((VI D g base t q u q2 u2).2.1 74, ent (VI D g base t q u q2 u2) sI 74))
theorem wl75 : WP D g base t q u q2 u2 75 := (rfl : some ((q2, .inr (8, [iv (4), iv 0, .ref (u2 0 0), .ref (u2 0 1), .ref (u2 0 2), .ref (u2 0 3), .ref (u2 0 4), iv 0, .ref (u2 0 5), .ref (u2 0 6), .ref (u2 0 7), .ref (u2 0 8), iv 0, .ref (u2 0 9), .ref (u2 0 10), .ref (u2 0 11), .ref (u2 0 12), .ref (u2 0 13), .ref (u2 0 14), .ref (u2 0 15), iv 0, .ref (u2 0 16), iv 0, .ref (u2 0 17), iv 0, .ref (u2 0 18), iv 0, .ref (u2 0 19), .ref (u2 0 20)])) : Nat × va_E) = some ((VI D g base t q u q2 u2).2.1 75, ent (VI D g base t q u q2 u2) sI 75))
theorem wl76 : WP D g base t q u q2 u2 76 := (rfl : some (((u2 0 0), zI g 8) : Nat × va_E) = some ((VI D g base t q u q2 u2).2.1 76, ent (VI D g base t q u q2 u2) sI 76))
theorem wl77 : WP D g base t q u q2 u2 77 := (rfl : some (((u2 0 1), zI g 8) : Nat × va_E) = some ((VI D g base t q u q2 u2).2.1 77, ent (VI D g base t q u q2 u2) sI 77))
theorem wl78 : WP D g base t q u q2 u2 78 := (rfl : some (((u2 0 2), zI g 8) : Nat × va_E) = some ((VI D g base t q u q2 u2).2.1 78, ent (VI D g base t q u q2 u2) sI 78))
theorem wl79 : WP D g base t q u q2 u2 79 := (rfl : some (((u2 0 3), zI g 8) : Nat × va_E) = some ((VI D g base t q u q2 u2).2.1 79, ent (VI D g base t q u q2 u2) sI 79))
theorem wl80 : WP D g base t q u q2 u2 80 := (rfl : some (((u2 0 4), zI g 8) : Nat × va_E) = some ((VI D g base t q u q2 u2).2.1 80, ent (VI D g base t q u q2 u2) sI 80))
theorem wl81 : WP D g base t q u q2 u2 81 := (rfl : some (((u2 0 5), zI g 64) : Nat × va_E) = some ((VI D g base t q u q2 u2).2.1 81, ent (VI D g base t q u q2 u2) sI 81))
theorem wl82 : WP D g base t q u q2 u2 82 := (rfl : some (((u2 0 6), zI g 64) : Nat × va_E) = some ((VI D g base t q u q2 u2).2.1 82, ent (VI D g base t q u q2 u2) sI 82))
theorem wl83 : WP D g base t q u q2 u2 83 := (rfl : some (((u2 0 7), zI g 64) : Nat × va_E) = some ((VI D g base t q u q2 u2).2.1 83, ent (VI D g base t q u q2 u2) sI 83))
theorem wl84 : WP D g base t q u q2 u2 84 := (rfl : some (((u2 0 8), zI g 72) : Nat × va_E) = some ((VI D g base t q u q2 u2).2.1 84, ent (VI D g base t q u q2 u2) sI 84))
theorem wl85 : WP D g base t q u q2 u2 85 := congrArg (fun F => some (u2 0 9, (Sum.inl (g 0, 3, .inl F) : va_E))) updf
theorem wl86 : WP D g base t q u q2 u2 86 := (rfl : some (((u2 0 10), zI g 120) : Nat × va_E) = some ((VI D g base t q u q2 u2).2.1 86, ent (VI D g base t q u q2 u2) sI 86))
theorem wl87 : WP D g base t q u q2 u2 87 := (rfl : some (((u2 0 11), zI g 7) : Nat × va_E) = some ((VI D g base t q u q2 u2).2.1 87, ent (VI D g base t q u q2 u2) sI 87))
theorem wl88 : WP D g base t q u q2 u2 88 := (rfl : some (((u2 0 12), zI g 8) : Nat × va_E) = some ((VI D g base t q u q2 u2).2.1 88, ent (VI D g base t q u q2 u2) sI 88))
theorem wl89 : WP D g base t q u q2 u2 89 := (rfl : some (((u2 0 13), zI g 7) : Nat × va_E) = some ((VI D g base t q u q2 u2).2.1 89, ent (VI D g base t q u q2 u2) sI 89))
theorem wl90 : WP D g base t q u q2 u2 90 := (rfl : some (((u2 0 14), zI g 56) : Nat × va_E) = some ((VI D g base t q u q2 u2).2.1 90, ent (VI D g base t q u q2 u2) sI 90))
theorem wl91 : WP D g base t q u q2 u2 91 := (rfl : some (((u2 0 15), zI g 7) : Nat × va_E) = some ((VI D g base t q u q2 u2).2.1 91, ent (VI D g base t q u q2 u2) sI 91))
theorem wl92 : WP D g base t q u q2 u2 92 := (rfl : some (((u2 0 16), zJ g 56) : Nat × va_E) = some ((VI D g base t q u q2 u2).2.1 92, ent (VI D g base t q u q2 u2) sI 92))
theorem wl93 : WP D g base t q u q2 u2 93 := (rfl : some (((u2 0 17), zI g 120) : Nat × va_E) = some ((VI D g base t q u q2 u2).2.1 93, ent (VI D g base t q u q2 u2) sI 93))
theorem wl94 : WP D g base t q u q2 u2 94 := (rfl : some (((u2 0 18), zI g 7) : Nat × va_E) = some ((VI D g base t q u q2 u2).2.1 94, ent (VI D g base t q u q2 u2) sI 94))
theorem wl95 : WP D g base t q u q2 u2 95 := (rfl : some (((u2 0 19), zI g 42) : Nat × va_E) = some ((VI D g base t q u q2 u2).2.1 95, ent (VI D g base t q u q2 u2) sI 95))
theorem wl96 : WP D g base t q u q2 u2 96 := (rfl : some (((u2 0 20), zI g 42) : Nat × va_E) = some ((VI D g base t q u q2 u2).2.1 96, ent (VI D g base t q u q2 u2) sI 96))
theorem wt0 : ∀ k, k < 0 → WP D g base t q u q2 u2 k := fun k h => absurd h (Nat.not_lt_zero k)
theorem wt1 : ∀ k, k < 1 → WP D g base t q u q2 u2 k := lt_next wt0 wl0
theorem wt2 : ∀ k, k < 2 → WP D g base t q u q2 u2 k := lt_next wt1 wl1
theorem wt3 : ∀ k, k < 3 → WP D g base t q u q2 u2 k := lt_next wt2 wl2
theorem wt4 : ∀ k, k < 4 → WP D g base t q u q2 u2 k := lt_next wt3 wl3
theorem wt5 : ∀ k, k < 5 → WP D g base t q u q2 u2 k := lt_next wt4 wl4
theorem wt6 : ∀ k, k < 6 → WP D g base t q u q2 u2 k := lt_next wt5 wl5
theorem wt7 : ∀ k, k < 7 → WP D g base t q u q2 u2 k := lt_next wt6 wl6
theorem wt8 : ∀ k, k < 8 → WP D g base t q u q2 u2 k := lt_next wt7 wl7
theorem wt9 : ∀ k, k < 9 → WP D g base t q u q2 u2 k := lt_next wt8 wl8
theorem wt10 : ∀ k, k < 10 → WP D g base t q u q2 u2 k := lt_next wt9 wl9
theorem wt11 : ∀ k, k < 11 → WP D g base t q u q2 u2 k := lt_next wt10 wl10
theorem wt12 : ∀ k, k < 12 → WP D g base t q u q2 u2 k := lt_next wt11 wl11
theorem wt13 : ∀ k, k < 13 → WP D g base t q u q2 u2 k := lt_next wt12 wl12
theorem wt14 : ∀ k, k < 14 → WP D g base t q u q2 u2 k := lt_next wt13 wl13
theorem wt15 : ∀ k, k < 15 → WP D g base t q u q2 u2 k := lt_next wt14 wl14
theorem wt16 : ∀ k, k < 16 → WP D g base t q u q2 u2 k := lt_next wt15 wl15
theorem wt17 : ∀ k, k < 17 → WP D g base t q u q2 u2 k := lt_next wt16 wl16
theorem wt18 : ∀ k, k < 18 → WP D g base t q u q2 u2 k := lt_next wt17 wl17
theorem wt19 : ∀ k, k < 19 → WP D g base t q u q2 u2 k := lt_next wt18 wl18
theorem wt20 : ∀ k, k < 20 → WP D g base t q u q2 u2 k := lt_next wt19 wl19
theorem wt21 : ∀ k, k < 21 → WP D g base t q u q2 u2 k := lt_next wt20 wl20
theorem wt22 : ∀ k, k < 22 → WP D g base t q u q2 u2 k := lt_next wt21 wl21
theorem wt23 : ∀ k, k < 23 → WP D g base t q u q2 u2 k := lt_next wt22 wl22
theorem wt24 : ∀ k, k < 24 → WP D g base t q u q2 u2 k := lt_next wt23 wl23
theorem wt25 : ∀ k, k < 25 → WP D g base t q u q2 u2 k := lt_next wt24 wl24
theorem wt26 : ∀ k, k < 26 → WP D g base t q u q2 u2 k := lt_next wt25 wl25
theorem wt27 : ∀ k, k < 27 → WP D g base t q u q2 u2 k := lt_next wt26 wl26
theorem wt28 : ∀ k, k < 28 → WP D g base t q u q2 u2 k := lt_next wt27 wl27
theorem wt29 : ∀ k, k < 29 → WP D g base t q u q2 u2 k := lt_next wt28 wl28
theorem wt30 : ∀ k, k < 30 → WP D g base t q u q2 u2 k := lt_next wt29 wl29
theorem wt31 : ∀ k, k < 31 → WP D g base t q u q2 u2 k := lt_next wt30 wl30
theorem wt32 : ∀ k, k < 32 → WP D g base t q u q2 u2 k := lt_next wt31 wl31
theorem wt33 : ∀ k, k < 33 → WP D g base t q u q2 u2 k := lt_next wt32 wl32
theorem wt34 : ∀ k, k < 34 → WP D g base t q u q2 u2 k := lt_next wt33 wl33
theorem wt35 : ∀ k, k < 35 → WP D g base t q u q2 u2 k := lt_next wt34 wl34
theorem wt36 : ∀ k, k < 36 → WP D g base t q u q2 u2 k := lt_next wt35 wl35
theorem wt37 : ∀ k, k < 37 → WP D g base t q u q2 u2 k := lt_next wt36 wl36
theorem wt38 : ∀ k, k < 38 → WP D g base t q u q2 u2 k := lt_next wt37 wl37
theorem wt39 : ∀ k, k < 39 → WP D g base t q u q2 u2 k := lt_next wt38 wl38
theorem wt40 : ∀ k, k < 40 → WP D g base t q u q2 u2 k := lt_next wt39 wl39
theorem wt41 : ∀ k, k < 41 → WP D g base t q u q2 u2 k := lt_next wt40 wl40
theorem wt42 : ∀ k, k < 42 → WP D g base t q u q2 u2 k := lt_next wt41 wl41
theorem wt43 : ∀ k, k < 43 → WP D g base t q u q2 u2 k := lt_next wt42 wl42
theorem wt44 : ∀ k, k < 44 → WP D g base t q u q2 u2 k := lt_next wt43 wl43
theorem wt45 : ∀ k, k < 45 → WP D g base t q u q2 u2 k := lt_next wt44 wl44
theorem wt46 : ∀ k, k < 46 → WP D g base t q u q2 u2 k := lt_next wt45 wl45
theorem wt47 : ∀ k, k < 47 → WP D g base t q u q2 u2 k := lt_next wt46 wl46
theorem wt48 : ∀ k, k < 48 → WP D g base t q u q2 u2 k := lt_next wt47 wl47
theorem wt49 : ∀ k, k < 49 → WP D g base t q u q2 u2 k := lt_next wt48 wl48
theorem wt50 : ∀ k, k < 50 → WP D g base t q u q2 u2 k := lt_next wt49 wl49
theorem wt51 : ∀ k, k < 51 → WP D g base t q u q2 u2 k := lt_next wt50 wl50
theorem wt52 : ∀ k, k < 52 → WP D g base t q u q2 u2 k := lt_next wt51 wl51
theorem wt53 : ∀ k, k < 53 → WP D g base t q u q2 u2 k := lt_next wt52 wl52
theorem wt54 : ∀ k, k < 54 → WP D g base t q u q2 u2 k := lt_next wt53 wl53
theorem wt55 : ∀ k, k < 55 → WP D g base t q u q2 u2 k := lt_next wt54 wl54
theorem wt56 : ∀ k, k < 56 → WP D g base t q u q2 u2 k := lt_next wt55 wl55
theorem wt57 : ∀ k, k < 57 → WP D g base t q u q2 u2 k := lt_next wt56 wl56
theorem wt58 : ∀ k, k < 58 → WP D g base t q u q2 u2 k := lt_next wt57 wl57
theorem wt59 : ∀ k, k < 59 → WP D g base t q u q2 u2 k := lt_next wt58 wl58
theorem wt60 : ∀ k, k < 60 → WP D g base t q u q2 u2 k := lt_next wt59 wl59
theorem wt61 : ∀ k, k < 61 → WP D g base t q u q2 u2 k := lt_next wt60 wl60
theorem wt62 : ∀ k, k < 62 → WP D g base t q u q2 u2 k := lt_next wt61 wl61
theorem wt63 : ∀ k, k < 63 → WP D g base t q u q2 u2 k := lt_next wt62 wl62
theorem wt64 : ∀ k, k < 64 → WP D g base t q u q2 u2 k := lt_next wt63 wl63
theorem wt65 : ∀ k, k < 65 → WP D g base t q u q2 u2 k := lt_next wt64 wl64
theorem wt66 : ∀ k, k < 66 → WP D g base t q u q2 u2 k := lt_next wt65 wl65
theorem wt67 : ∀ k, k < 67 → WP D g base t q u q2 u2 k := lt_next wt66 wl66
theorem wt68 : ∀ k, k < 68 → WP D g base t q u q2 u2 k := lt_next wt67 wl67
theorem wt69 : ∀ k, k < 69 → WP D g base t q u q2 u2 k := lt_next wt68 wl68
theorem wt70 : ∀ k, k < 70 → WP D g base t q u q2 u2 k := lt_next wt69 wl69
theorem wt71 : ∀ k, k < 71 → WP D g base t q u q2 u2 k := lt_next wt70 wl70
theorem wt72 : ∀ k, k < 72 → WP D g base t q u q2 u2 k := lt_next wt71 wl71
theorem wt73 : ∀ k, k < 73 → WP D g base t q u q2 u2 k := lt_next wt72 wl72
theorem wt74 : ∀ k, k < 74 → WP D g base t q u q2 u2 k := lt_next wt73 wl73
theorem wt75 : ∀ k, k < 75 → WP D g base t q u q2 u2 k := lt_next wt74 wl74
theorem wt76 : ∀ k, k < 76 → WP D g base t q u q2 u2 k := lt_next wt75 wl75
theorem wt77 : ∀ k, k < 77 → WP D g base t q u q2 u2 k := lt_next wt76 wl76
theorem wt78 : ∀ k, k < 78 → WP D g base t q u q2 u2 k := lt_next wt77 wl77
theorem wt79 : ∀ k, k < 79 → WP D g base t q u q2 u2 k := lt_next wt78 wl78
theorem wt80 : ∀ k, k < 80 → WP D g base t q u q2 u2 k := lt_next wt79 wl79
theorem wt81 : ∀ k, k < 81 → WP D g base t q u q2 u2 k := lt_next wt80 wl80
theorem wt82 : ∀ k, k < 82 → WP D g base t q u q2 u2 k := lt_next wt81 wl81
theorem wt83 : ∀ k, k < 83 → WP D g base t q u q2 u2 k := lt_next wt82 wl82
theorem wt84 : ∀ k, k < 84 → WP D g base t q u q2 u2 k := lt_next wt83 wl83
theorem wt85 : ∀ k, k < 85 → WP D g base t q u q2 u2 k := lt_next wt84 wl84
theorem wt86 : ∀ k, k < 86 → WP D g base t q u q2 u2 k := lt_next wt85 wl85
theorem wt87 : ∀ k, k < 87 → WP D g base t q u q2 u2 k := lt_next wt86 wl86
theorem wt88 : ∀ k, k < 88 → WP D g base t q u q2 u2 k := lt_next wt87 wl87
theorem wt89 : ∀ k, k < 89 → WP D g base t q u q2 u2 k := lt_next wt88 wl88
theorem wt90 : ∀ k, k < 90 → WP D g base t q u q2 u2 k := lt_next wt89 wl89
theorem wt91 : ∀ k, k < 91 → WP D g base t q u q2 u2 k := lt_next wt90 wl90
theorem wt92 : ∀ k, k < 92 → WP D g base t q u q2 u2 k := lt_next wt91 wl91
theorem wt93 : ∀ k, k < 93 → WP D g base t q u q2 u2 k := lt_next wt92 wl92
theorem wt94 : ∀ k, k < 94 → WP D g base t q u q2 u2 k := lt_next wt93 wl93
theorem wt95 : ∀ k, k < 95 → WP D g base t q u q2 u2 k := lt_next wt94 wl94
theorem wt96 : ∀ k, k < 96 → WP D g base t q u q2 u2 k := lt_next wt95 wl95
theorem wt97 : ∀ k, k < 97 → WP D g base t q u q2 u2 k := lt_next wt96 wl96
theorem wI_P {H : Heap} (h : va_P D classes (wsI g q u q2 u2) H) : va_P (VI D g base t q u q2 u2).1 classes (wld (VI D g base t q u q2 u2) sI) H := h.by (fun k => permL.getD k 0) (fun k x hx => by
  have hk : k < 97 := by
    have := (List.getElem?_eq_some_iff.mp hx).1
    rwa [wld_len] at this
  rw [wld_at (VI D g base t q u q2 u2) sI hk] at hx
  rw [← hx, wsI_eq]
  exact wt97 k hk)
theorem wI_D {B : Nat → Prop} (h : va_D B (wsI g q u q2 u2)) : va_D B (wld (VI D g base t q u q2 u2) sI) := h.by (fun k => permL.getD k 0) (fun k x hx => by
  have hk : k < 97 := by
    have := (List.getElem?_eq_some_iff.mp hx).1
    rwa [wld_len] at this
  rw [wld_at (VI D g base t q u q2 u2) sI hk] at hx
  rw [← hx, wsI_eq]
  exact wt97 k hk) (fun i j hi hj e => by
  rw [wld_len] at hi hj
  rw [← perm_i i hi, ← perm_i j hj]
  exact congrArg (fun x => invL.getD x 0) e)
end WI
theorem sI_OK : OK sI := by
  refine ⟨⟨by decide, by decide, by decide, by decide, fun i _ _ => ?_, fun i a b => absurd (show i < (0 : Int) from b) (by omega)⟩, by decide, by decide, fun i a b => absurd (show i < (0 : Int) from b) (by omega), Or.inl rfl, fun l l0 l1 => ?_, fun i a b => absurd (show i < 8 * (0 : Int) from b) (by omega)⟩
  · show (0 : Int) ≤ 0 ∧ (0 : Int) ≤ 5 ∧ (0 : Int) ≤ 0 ∧ (0 : Int) ≤ 9 ∧ (0 : Int) ≤ 0 ∧ (0 : Int) ≤ 6 ∧ (0 : Int) ≤ 0 ∧ (0 : Int) ≤ 6 ∧ (0 : Int) ≤ 0 ∧ (0 : Int) ≤ 99
    decide
  · rcases (show l = 0 ∨ l = 1 ∨ l = 2 by omega) with rfl | rfl | rfl <;> exact ⟨by decide, by decide, fun i a b => absurd (show i < (-1 : Int) from b) (by omega)⟩
theorem sI_RX : RX sI sI := by
  refine ⟨⟨rfl, rfl, fun i _ _ => ⟨rfl, rfl, rfl, rfl, rfl⟩⟩, ⟨rfl, fun i a b => absurd (show i < (0 : Int) from b) (by omega)⟩, ⟨rfl, by decide, by decide, fun j a b => absurd (show j < (0 : Int) from b) (by omega)⟩, fun l l0 l1 => ⟨rfl, fun i a b => ?_⟩, fun i _ _ => rfl, rfl, fun h => absurd h (by decide)⟩
  rcases (show l = 0 ∨ l = 1 ∨ l = 2 by omega) with rfl | rfl | rfl <;> exact absurd (show i < (-1 : Int) from b) (by omega)
