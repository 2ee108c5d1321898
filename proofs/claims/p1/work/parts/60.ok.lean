-- 60.ok: a model that comes to an end, and what holds then; whole numbers out of Int32 and Int64
def ok {α : Type} (x : Option α) (P : α → Prop) : Prop := ∃ a, x = some a ∧ P a
theorem ok_some {α : Type} {a : α} {P : α → Prop} (h : P a) : ok (some a) P := ⟨a, rfl, h⟩
theorem ok_mono {α : Type} {x : Option α} {P Q : α → Prop} (h : ok x P) (hq : ∀ a, P a → Q a) : ok x Q := by
  obtain ⟨a, e, h⟩ := h
  exact ⟨a, e, hq a h⟩
theorem ok_zl {α β : Type} {x : α} {k : α → Option β} {P : β → Prop} (h : ok (k x) P) : ok (zl x k) P := h
theorem ok_zc {α β : Type} {x : Option α} {k : α → Option β} {Q : α → Prop} {P : β → Prop} (hx : ok x Q) (h : ∀ a, Q a → ok (k a) P) : ok (zc x k) P := by
  obtain ⟨a, rfl, hq⟩ := hx
  exact h a hq
theorem ok_if {α : Type} {c : Prop} {d : Decidable c} {a b : Option α} {P : α → Prop} (h1 : c → ok a P) (h2 : ¬ c → ok b P) : ok (@ite _ c d a b) P := by
  by_cases h : c
  · rw [if_pos h]; exact h1 h
  · rw [if_neg h]; exact h2 h
theorem sg_in_of {i : Int32} {n : Nat} (h1 : 0 ≤ i.toInt) (h2 : i.toInt < n) : sg_in i n = true := by
  have e : i.toNatClampNeg = i.toInt.toNat := rfl
  have z : (0 : Int32).toInt = 0 := rfl
  have h3 : ¬ i < 0 := by rw [Int32.lt_iff_toInt_lt]; omega
  have h4 : i.toNatClampNeg < n := by omega
  simp [sg_in, h3, h4]
theorem ok_in {α : Type} {i : Int32} {n : Nat} {a : Option α} {P : α → Prop} (hi : 0 ≤ i.toInt ∧ i.toInt < n) (h : ok a P) : ok (if sg_in i n = true then a else none) P := by
  rw [if_pos (sg_in_of hi.1 hi.2)]
  exact h
theorem ok_lt {α : Type} {x y : Int32} {d : Decidable (x < y)} {a b : Option α} {P : α → Prop} (h1 : x.toInt < y.toInt → ok a P) (h2 : ¬ x.toInt < y.toInt → ok b P) : ok (@ite _ (x < y) d a b) P := ok_if (fun h => h1 (Int32.lt_iff_toInt_lt.mp h)) (fun h => h2 (fun q => h (Int32.lt_iff_toInt_lt.mpr q)))
theorem ok_le {α : Type} {x y : Int32} {d : Decidable (x ≤ y)} {a b : Option α} {P : α → Prop} (h1 : x.toInt ≤ y.toInt → ok a P) (h2 : ¬ x.toInt ≤ y.toInt → ok b P) : ok (@ite _ (x ≤ y) d a b) P := ok_if (fun h => h1 (Int32.le_iff_toInt_le.mp h)) (fun h => h2 (fun q => h (Int32.le_iff_toInt_le.mpr q)))
theorem ok_eq {α : Type} {x y : Int32} {d : Decidable (x = y)} {a b : Option α} {P : α → Prop} (h1 : x.toInt = y.toInt → ok a P) (h2 : ¬ x.toInt = y.toInt → ok b P) : ok (@ite _ (x = y) d a b) P := ok_if (fun h => h1 (by rw [h])) (fun h => h2 (fun q => h (Int32.toInt_inj.mp q)))
theorem ok_ltL {α : Type} {x y : Int64} {d : Decidable (x < y)} {a b : Option α} {P : α → Prop} (h1 : x.toInt < y.toInt → ok a P) (h2 : ¬ x.toInt < y.toInt → ok b P) : ok (@ite _ (x < y) d a b) P := ok_if (fun h => h1 (Int64.lt_iff_toInt_lt.mp h)) (fun h => h2 (fun q => h (Int64.lt_iff_toInt_lt.mpr q)))
theorem ok_leL {α : Type} {x y : Int64} {d : Decidable (x ≤ y)} {a b : Option α} {P : α → Prop} (h1 : x.toInt ≤ y.toInt → ok a P) (h2 : ¬ x.toInt ≤ y.toInt → ok b P) : ok (@ite _ (x ≤ y) d a b) P := ok_if (fun h => h1 (Int64.le_iff_toInt_le.mp h)) (fun h => h2 (fun q => h (Int64.le_iff_toInt_le.mpr q)))
theorem ok_eqL {α : Type} {x y : Int64} {d : Decidable (x = y)} {a b : Option α} {P : α → Prop} (h1 : x.toInt = y.toInt → ok a P) (h2 : ¬ x.toInt = y.toInt → ok b P) : ok (@ite _ (x = y) d a b) P := ok_if (fun h => h1 (by rw [h])) (fun h => h2 (fun q => h (Int64.toInt_inj.mp q)))
theorem ok_neL {α : Type} {x y : Int64} {d : Decidable (¬ x = y)} {a : Option α} {P : α → Prop} (h0 : x.toInt ≠ y.toInt) (h : ok a P) : ok (@ite _ (¬ x = y) d a none) P := by
  rw [if_pos (fun q => h0 (by rw [q]))]
  exact h
theorem zb_of {r : Int32} (h : r.toInt = 0 ∨ r.toInt = 1) : zb r = true := by
  have h9 : r = 0 ∨ r = 1 := by
    rcases h with h | h
    · exact Or.inl (Int32.toInt_inj.mp h)
    · exact Or.inr (Int32.toInt_inj.mp h)
  rcases h9 with h | h <;> (rw [h]; decide)
theorem ok_zb {α : Type} {r : Int32} {a : Option α} {P : α → Prop} (hr : r.toInt = 0 ∨ r.toInt = 1) (h : ok a P) : ok (if zb r = true then a else none) P := by
  rw [if_pos (zb_of hr)]
  exact h
-- sums, by the rest of 2 ^ 32
theorem i_add (x y : Int32) : (x + y).toInt = (x.toInt + y.toInt + 2147483648) % 4294967296 - 2147483648 := by
  rw [Int32.toInt_add, Int.bmod_def]
  split <;> omega
theorem i_sub (x y : Int32) : (x - y).toInt = (x.toInt - y.toInt + 2147483648) % 4294967296 - 2147483648 := by
  rw [Int32.toInt_sub, Int.bmod_def]
  split <;> omega
theorem i_mul (x y : Int32) : (x * y).toInt = (x.toInt * y.toInt + 2147483648) % 4294967296 - 2147483648 := by
  rw [Int32.toInt_mul, Int.bmod_def]
  split <;> omega
theorem l_add (x y : Int64) : (x + y).toInt = (x.toInt + y.toInt + 9223372036854775808) % 18446744073709551616 - 9223372036854775808 := by
  rw [Int64.toInt_add, Int.bmod_def]
  split <;> omega
theorem l_sub (x y : Int64) : (x - y).toInt = (x.toInt - y.toInt + 9223372036854775808) % 18446744073709551616 - 9223372036854775808 := by
  rw [Int64.toInt_sub, Int.bmod_def]
  split <;> omega
theorem l_mul (x y : Int64) : (x * y).toInt = (x.toInt * y.toInt + 9223372036854775808) % 18446744073709551616 - 9223372036854775808 := by
  rw [Int64.toInt_mul, Int.bmod_def]
  split <;> omega
theorem i_lo (x : Int32) : -2147483648 ≤ x.toInt ∧ x.toInt ≤ 2147483647 := by
  have h1 := Int32.le_toInt x
  have h2 := Int32.toInt_lt x
  omega
theorem l_lo (x : Int64) : -9223372036854775808 ≤ x.toInt ∧ x.toInt ≤ 9223372036854775807 := by
  have h1 := Int64.le_toInt x
  have h2 := Int64.toInt_lt x
  omega
-- loops
theorem ok_fx1 {A1 R : Type} {F : (A1 → Option R) → A1 → Option R} {P : R → Prop} (I : A1 → Prop) (μ : A1 → Nat) (hs : ∀ (rec : A1 → Option R) (a1 : A1), I a1 → (∀ (b1 : A1), I b1 → μ b1 < μ a1 → ok (rec b1) P) → ok (F rec a1) P) : ∀ (n : Nat) (a1 : A1), I a1 → μ a1 < n → ok (fx1 F n a1) P := by
  intro n
  induction n with
  | zero => intro a1 _ h; exact absurd h (Nat.not_lt_zero _)
  | succ n ih => intro a1 hi h; exact hs _ a1 hi (fun b1 hb hm => ih b1 hb (by omega))
theorem ok_fx2 {A1 A2 R : Type} {F : (A1 → A2 → Option R) → A1 → A2 → Option R} {P : R → Prop} (I : A1 → A2 → Prop) (μ : A1 → A2 → Nat) (hs : ∀ (rec : A1 → A2 → Option R) (a1 : A1) (a2 : A2), I a1 a2 → (∀ (b1 : A1) (b2 : A2), I b1 b2 → μ b1 b2 < μ a1 a2 → ok (rec b1 b2) P) → ok (F rec a1 a2) P) : ∀ (n : Nat) (a1 : A1) (a2 : A2), I a1 a2 → μ a1 a2 < n → ok (fx2 F n a1 a2) P := by
  intro n
  induction n with
  | zero => intro a1 a2 _ h; exact absurd h (Nat.not_lt_zero _)
  | succ n ih => intro a1 a2 hi h; exact hs _ a1 a2 hi (fun b1 b2 hb hm => ih b1 b2 hb (by omega))
theorem ok_fx3 {A1 A2 A3 R : Type} {F : (A1 → A2 → A3 → Option R) → A1 → A2 → A3 → Option R} {P : R → Prop} (I : A1 → A2 → A3 → Prop) (μ : A1 → A2 → A3 → Nat) (hs : ∀ (rec : A1 → A2 → A3 → Option R) (a1 : A1) (a2 : A2) (a3 : A3), I a1 a2 a3 → (∀ (b1 : A1) (b2 : A2) (b3 : A3), I b1 b2 b3 → μ b1 b2 b3 < μ a1 a2 a3 → ok (rec b1 b2 b3) P) → ok (F rec a1 a2 a3) P) : ∀ (n : Nat) (a1 : A1) (a2 : A2) (a3 : A3), I a1 a2 a3 → μ a1 a2 a3 < n → ok (fx3 F n a1 a2 a3) P := by
  intro n
  induction n with
  | zero => intro a1 a2 a3 _ h; exact absurd h (Nat.not_lt_zero _)
  | succ n ih => intro a1 a2 a3 hi h; exact hs _ a1 a2 a3 hi (fun b1 b2 b3 hb hm => ih b1 b2 b3 hb (by omega))
theorem ok_fx4 {A1 A2 A3 A4 R : Type} {F : (A1 → A2 → A3 → A4 → Option R) → A1 → A2 → A3 → A4 → Option R} {P : R → Prop} (I : A1 → A2 → A3 → A4 → Prop) (μ : A1 → A2 → A3 → A4 → Nat) (hs : ∀ (rec : A1 → A2 → A3 → A4 → Option R) (a1 : A1) (a2 : A2) (a3 : A3) (a4 : A4), I a1 a2 a3 a4 → (∀ (b1 : A1) (b2 : A2) (b3 : A3) (b4 : A4), I b1 b2 b3 b4 → μ b1 b2 b3 b4 < μ a1 a2 a3 a4 → ok (rec b1 b2 b3 b4) P) → ok (F rec a1 a2 a3 a4) P) : ∀ (n : Nat) (a1 : A1) (a2 : A2) (a3 : A3) (a4 : A4), I a1 a2 a3 a4 → μ a1 a2 a3 a4 < n → ok (fx4 F n a1 a2 a3 a4) P := by
  intro n
  induction n with
  | zero => intro a1 a2 a3 a4 _ h; exact absurd h (Nat.not_lt_zero _)
  | succ n ih => intro a1 a2 a3 a4 hi h; exact hs _ a1 a2 a3 a4 hi (fun b1 b2 b3 b4 hb hm => ih b1 b2 b3 b4 hb (by omega))
theorem ok_fx5 {A1 A2 A3 A4 A5 R : Type} {F : (A1 → A2 → A3 → A4 → A5 → Option R) → A1 → A2 → A3 → A4 → A5 → Option R} {P : R → Prop} (I : A1 → A2 → A3 → A4 → A5 → Prop) (μ : A1 → A2 → A3 → A4 → A5 → Nat) (hs : ∀ (rec : A1 → A2 → A3 → A4 → A5 → Option R) (a1 : A1) (a2 : A2) (a3 : A3) (a4 : A4) (a5 : A5), I a1 a2 a3 a4 a5 → (∀ (b1 : A1) (b2 : A2) (b3 : A3) (b4 : A4) (b5 : A5), I b1 b2 b3 b4 b5 → μ b1 b2 b3 b4 b5 < μ a1 a2 a3 a4 a5 → ok (rec b1 b2 b3 b4 b5) P) → ok (F rec a1 a2 a3 a4 a5) P) : ∀ (n : Nat) (a1 : A1) (a2 : A2) (a3 : A3) (a4 : A4) (a5 : A5), I a1 a2 a3 a4 a5 → μ a1 a2 a3 a4 a5 < n → ok (fx5 F n a1 a2 a3 a4 a5) P := by
  intro n
  induction n with
  | zero => intro a1 a2 a3 a4 a5 _ h; exact absurd h (Nat.not_lt_zero _)
  | succ n ih => intro a1 a2 a3 a4 a5 hi h; exact hs _ a1 a2 a3 a4 a5 hi (fun b1 b2 b3 b4 b5 hb hm => ih b1 b2 b3 b4 b5 hb (by omega))
theorem ok_fx6 {A1 A2 A3 A4 A5 A6 R : Type} {F : (A1 → A2 → A3 → A4 → A5 → A6 → Option R) → A1 → A2 → A3 → A4 → A5 → A6 → Option R} {P : R → Prop} (I : A1 → A2 → A3 → A4 → A5 → A6 → Prop) (μ : A1 → A2 → A3 → A4 → A5 → A6 → Nat) (hs : ∀ (rec : A1 → A2 → A3 → A4 → A5 → A6 → Option R) (a1 : A1) (a2 : A2) (a3 : A3) (a4 : A4) (a5 : A5) (a6 : A6), I a1 a2 a3 a4 a5 a6 → (∀ (b1 : A1) (b2 : A2) (b3 : A3) (b4 : A4) (b5 : A5) (b6 : A6), I b1 b2 b3 b4 b5 b6 → μ b1 b2 b3 b4 b5 b6 < μ a1 a2 a3 a4 a5 a6 → ok (rec b1 b2 b3 b4 b5 b6) P) → ok (F rec a1 a2 a3 a4 a5 a6) P) : ∀ (n : Nat) (a1 : A1) (a2 : A2) (a3 : A3) (a4 : A4) (a5 : A5) (a6 : A6), I a1 a2 a3 a4 a5 a6 → μ a1 a2 a3 a4 a5 a6 < n → ok (fx6 F n a1 a2 a3 a4 a5 a6) P := by
  intro n
  induction n with
  | zero => intro a1 a2 a3 a4 a5 a6 _ h; exact absurd h (Nat.not_lt_zero _)
  | succ n ih => intro a1 a2 a3 a4 a5 a6 hi h; exact hs _ a1 a2 a3 a4 a5 a6 hi (fun b1 b2 b3 b4 b5 b6 hb hm => ih b1 b2 b3 b4 b5 b6 hb (by omega))
theorem ok_fx7 {A1 A2 A3 A4 A5 A6 A7 R : Type} {F : (A1 → A2 → A3 → A4 → A5 → A6 → A7 → Option R) → A1 → A2 → A3 → A4 → A5 → A6 → A7 → Option R} {P : R → Prop} (I : A1 → A2 → A3 → A4 → A5 → A6 → A7 → Prop) (μ : A1 → A2 → A3 → A4 → A5 → A6 → A7 → Nat) (hs : ∀ (rec : A1 → A2 → A3 → A4 → A5 → A6 → A7 → Option R) (a1 : A1) (a2 : A2) (a3 : A3) (a4 : A4) (a5 : A5) (a6 : A6) (a7 : A7), I a1 a2 a3 a4 a5 a6 a7 → (∀ (b1 : A1) (b2 : A2) (b3 : A3) (b4 : A4) (b5 : A5) (b6 : A6) (b7 : A7), I b1 b2 b3 b4 b5 b6 b7 → μ b1 b2 b3 b4 b5 b6 b7 < μ a1 a2 a3 a4 a5 a6 a7 → ok (rec b1 b2 b3 b4 b5 b6 b7) P) → ok (F rec a1 a2 a3 a4 a5 a6 a7) P) : ∀ (n : Nat) (a1 : A1) (a2 : A2) (a3 : A3) (a4 : A4) (a5 : A5) (a6 : A6) (a7 : A7), I a1 a2 a3 a4 a5 a6 a7 → μ a1 a2 a3 a4 a5 a6 a7 < n → ok (fx7 F n a1 a2 a3 a4 a5 a6 a7) P := by
  intro n
  induction n with
  | zero => intro a1 a2 a3 a4 a5 a6 a7 _ h; exact absurd h (Nat.not_lt_zero _)
  | succ n ih => intro a1 a2 a3 a4 a5 a6 a7 hi h; exact hs _ a1 a2 a3 a4 a5 a6 a7 hi (fun b1 b2 b3 b4 b5 b6 b7 hb hm => ih b1 b2 b3 b4 b5 b6 b7 hb (by omega))
theorem ok_fx8 {A1 A2 A3 A4 A5 A6 A7 A8 R : Type} {F : (A1 → A2 → A3 → A4 → A5 → A6 → A7 → A8 → Option R) → A1 → A2 → A3 → A4 → A5 → A6 → A7 → A8 → Option R} {P : R → Prop} (I : A1 → A2 → A3 → A4 → A5 → A6 → A7 → A8 → Prop) (μ : A1 → A2 → A3 → A4 → A5 → A6 → A7 → A8 → Nat) (hs : ∀ (rec : A1 → A2 → A3 → A4 → A5 → A6 → A7 → A8 → Option R) (a1 : A1) (a2 : A2) (a3 : A3) (a4 : A4) (a5 : A5) (a6 : A6) (a7 : A7) (a8 : A8), I a1 a2 a3 a4 a5 a6 a7 a8 → (∀ (b1 : A1) (b2 : A2) (b3 : A3) (b4 : A4) (b5 : A5) (b6 : A6) (b7 : A7) (b8 : A8), I b1 b2 b3 b4 b5 b6 b7 b8 → μ b1 b2 b3 b4 b5 b6 b7 b8 < μ a1 a2 a3 a4 a5 a6 a7 a8 → ok (rec b1 b2 b3 b4 b5 b6 b7 b8) P) → ok (F rec a1 a2 a3 a4 a5 a6 a7 a8) P) : ∀ (n : Nat) (a1 : A1) (a2 : A2) (a3 : A3) (a4 : A4) (a5 : A5) (a6 : A6) (a7 : A7) (a8 : A8), I a1 a2 a3 a4 a5 a6 a7 a8 → μ a1 a2 a3 a4 a5 a6 a7 a8 < n → ok (fx8 F n a1 a2 a3 a4 a5 a6 a7 a8) P := by
  intro n
  induction n with
  | zero => intro a1 a2 a3 a4 a5 a6 a7 a8 _ h; exact absurd h (Nat.not_lt_zero _)
  | succ n ih => intro a1 a2 a3 a4 a5 a6 a7 a8 hi h; exact hs _ a1 a2 a3 a4 a5 a6 a7 a8 hi (fun b1 b2 b3 b4 b5 b6 b7 b8 hb hm => ih b1 b2 b3 b4 b5 b6 b7 b8 hb (by omega))
theorem ok_fx9 {A1 A2 A3 A4 A5 A6 A7 A8 A9 R : Type} {F : (A1 → A2 → A3 → A4 → A5 → A6 → A7 → A8 → A9 → Option R) → A1 → A2 → A3 → A4 → A5 → A6 → A7 → A8 → A9 → Option R} {P : R → Prop} (I : A1 → A2 → A3 → A4 → A5 → A6 → A7 → A8 → A9 → Prop) (μ : A1 → A2 → A3 → A4 → A5 → A6 → A7 → A8 → A9 → Nat) (hs : ∀ (rec : A1 → A2 → A3 → A4 → A5 → A6 → A7 → A8 → A9 → Option R) (a1 : A1) (a2 : A2) (a3 : A3) (a4 : A4) (a5 : A5) (a6 : A6) (a7 : A7) (a8 : A8) (a9 : A9), I a1 a2 a3 a4 a5 a6 a7 a8 a9 → (∀ (b1 : A1) (b2 : A2) (b3 : A3) (b4 : A4) (b5 : A5) (b6 : A6) (b7 : A7) (b8 : A8) (b9 : A9), I b1 b2 b3 b4 b5 b6 b7 b8 b9 → μ b1 b2 b3 b4 b5 b6 b7 b8 b9 < μ a1 a2 a3 a4 a5 a6 a7 a8 a9 → ok (rec b1 b2 b3 b4 b5 b6 b7 b8 b9) P) → ok (F rec a1 a2 a3 a4 a5 a6 a7 a8 a9) P) : ∀ (n : Nat) (a1 : A1) (a2 : A2) (a3 : A3) (a4 : A4) (a5 : A5) (a6 : A6) (a7 : A7) (a8 : A8) (a9 : A9), I a1 a2 a3 a4 a5 a6 a7 a8 a9 → μ a1 a2 a3 a4 a5 a6 a7 a8 a9 < n → ok (fx9 F n a1 a2 a3 a4 a5 a6 a7 a8 a9) P := by
  intro n
  induction n with
  | zero => intro a1 a2 a3 a4 a5 a6 a7 a8 a9 _ h; exact absurd h (Nat.not_lt_zero _)
  | succ n ih => intro a1 a2 a3 a4 a5 a6 a7 a8 a9 hi h; exact hs _ a1 a2 a3 a4 a5 a6 a7 a8 a9 hi (fun b1 b2 b3 b4 b5 b6 b7 b8 b9 hb hm => ih b1 b2 b3 b4 b5 b6 b7 b8 b9 hb (by omega))
theorem ok_fx10 {A1 A2 A3 A4 A5 A6 A7 A8 A9 A10 R : Type} {F : (A1 → A2 → A3 → A4 → A5 → A6 → A7 → A8 → A9 → A10 → Option R) → A1 → A2 → A3 → A4 → A5 → A6 → A7 → A8 → A9 → A10 → Option R} {P : R → Prop} (I : A1 → A2 → A3 → A4 → A5 → A6 → A7 → A8 → A9 → A10 → Prop) (μ : A1 → A2 → A3 → A4 → A5 → A6 → A7 → A8 → A9 → A10 → Nat) (hs : ∀ (rec : A1 → A2 → A3 → A4 → A5 → A6 → A7 → A8 → A9 → A10 → Option R) (a1 : A1) (a2 : A2) (a3 : A3) (a4 : A4) (a5 : A5) (a6 : A6) (a7 : A7) (a8 : A8) (a9 : A9) (a10 : A10), I a1 a2 a3 a4 a5 a6 a7 a8 a9 a10 → (∀ (b1 : A1) (b2 : A2) (b3 : A3) (b4 : A4) (b5 : A5) (b6 : A6) (b7 : A7) (b8 : A8) (b9 : A9) (b10 : A10), I b1 b2 b3 b4 b5 b6 b7 b8 b9 b10 → μ b1 b2 b3 b4 b5 b6 b7 b8 b9 b10 < μ a1 a2 a3 a4 a5 a6 a7 a8 a9 a10 → ok (rec b1 b2 b3 b4 b5 b6 b7 b8 b9 b10) P) → ok (F rec a1 a2 a3 a4 a5 a6 a7 a8 a9 a10) P) : ∀ (n : Nat) (a1 : A1) (a2 : A2) (a3 : A3) (a4 : A4) (a5 : A5) (a6 : A6) (a7 : A7) (a8 : A8) (a9 : A9) (a10 : A10), I a1 a2 a3 a4 a5 a6 a7 a8 a9 a10 → μ a1 a2 a3 a4 a5 a6 a7 a8 a9 a10 < n → ok (fx10 F n a1 a2 a3 a4 a5 a6 a7 a8 a9 a10) P := by
  intro n
  induction n with
  | zero => intro a1 a2 a3 a4 a5 a6 a7 a8 a9 a10 _ h; exact absurd h (Nat.not_lt_zero _)
  | succ n ih => intro a1 a2 a3 a4 a5 a6 a7 a8 a9 a10 hi h; exact hs _ a1 a2 a3 a4 a5 a6 a7 a8 a9 a10 hi (fun b1 b2 b3 b4 b5 b6 b7 b8 b9 b10 hb hm => ih b1 b2 b3 b4 b5 b6 b7 b8 b9 b10 hb (by omega))
theorem ok_fx11 {A1 A2 A3 A4 A5 A6 A7 A8 A9 A10 A11 R : Type} {F : (A1 → A2 → A3 → A4 → A5 → A6 → A7 → A8 → A9 → A10 → A11 → Option R) → A1 → A2 → A3 → A4 → A5 → A6 → A7 → A8 → A9 → A10 → A11 → Option R} {P : R → Prop} (I : A1 → A2 → A3 → A4 → A5 → A6 → A7 → A8 → A9 → A10 → A11 → Prop) (μ : A1 → A2 → A3 → A4 → A5 → A6 → A7 → A8 → A9 → A10 → A11 → Nat) (hs : ∀ (rec : A1 → A2 → A3 → A4 → A5 → A6 → A7 → A8 → A9 → A10 → A11 → Option R) (a1 : A1) (a2 : A2) (a3 : A3) (a4 : A4) (a5 : A5) (a6 : A6) (a7 : A7) (a8 : A8) (a9 : A9) (a10 : A10) (a11 : A11), I a1 a2 a3 a4 a5 a6 a7 a8 a9 a10 a11 → (∀ (b1 : A1) (b2 : A2) (b3 : A3) (b4 : A4) (b5 : A5) (b6 : A6) (b7 : A7) (b8 : A8) (b9 : A9) (b10 : A10) (b11 : A11), I b1 b2 b3 b4 b5 b6 b7 b8 b9 b10 b11 → μ b1 b2 b3 b4 b5 b6 b7 b8 b9 b10 b11 < μ a1 a2 a3 a4 a5 a6 a7 a8 a9 a10 a11 → ok (rec b1 b2 b3 b4 b5 b6 b7 b8 b9 b10 b11) P) → ok (F rec a1 a2 a3 a4 a5 a6 a7 a8 a9 a10 a11) P) : ∀ (n : Nat) (a1 : A1) (a2 : A2) (a3 : A3) (a4 : A4) (a5 : A5) (a6 : A6) (a7 : A7) (a8 : A8) (a9 : A9) (a10 : A10) (a11 : A11), I a1 a2 a3 a4 a5 a6 a7 a8 a9 a10 a11 → μ a1 a2 a3 a4 a5 a6 a7 a8 a9 a10 a11 < n → ok (fx11 F n a1 a2 a3 a4 a5 a6 a7 a8 a9 a10 a11) P := by
  intro n
  induction n with
  | zero => intro a1 a2 a3 a4 a5 a6 a7 a8 a9 a10 a11 _ h; exact absurd h (Nat.not_lt_zero _)
  | succ n ih => intro a1 a2 a3 a4 a5 a6 a7 a8 a9 a10 a11 hi h; exact hs _ a1 a2 a3 a4 a5 a6 a7 a8 a9 a10 a11 hi (fun b1 b2 b3 b4 b5 b6 b7 b8 b9 b10 b11 hb hm => ih b1 b2 b3 b4 b5 b6 b7 b8 b9 b10 b11 hb (by omega))
theorem ok_fx12 {A1 A2 A3 A4 A5 A6 A7 A8 A9 A10 A11 A12 R : Type} {F : (A1 → A2 → A3 → A4 → A5 → A6 → A7 → A8 → A9 → A10 → A11 → A12 → Option R) → A1 → A2 → A3 → A4 → A5 → A6 → A7 → A8 → A9 → A10 → A11 → A12 → Option R} {P : R → Prop} (I : A1 → A2 → A3 → A4 → A5 → A6 → A7 → A8 → A9 → A10 → A11 → A12 → Prop) (μ : A1 → A2 → A3 → A4 → A5 → A6 → A7 → A8 → A9 → A10 → A11 → A12 → Nat) (hs : ∀ (rec : A1 → A2 → A3 → A4 → A5 → A6 → A7 → A8 → A9 → A10 → A11 → A12 → Option R) (a1 : A1) (a2 : A2) (a3 : A3) (a4 : A4) (a5 : A5) (a6 : A6) (a7 : A7) (a8 : A8) (a9 : A9) (a10 : A10) (a11 : A11) (a12 : A12), I a1 a2 a3 a4 a5 a6 a7 a8 a9 a10 a11 a12 → (∀ (b1 : A1) (b2 : A2) (b3 : A3) (b4 : A4) (b5 : A5) (b6 : A6) (b7 : A7) (b8 : A8) (b9 : A9) (b10 : A10) (b11 : A11) (b12 : A12), I b1 b2 b3 b4 b5 b6 b7 b8 b9 b10 b11 b12 → μ b1 b2 b3 b4 b5 b6 b7 b8 b9 b10 b11 b12 < μ a1 a2 a3 a4 a5 a6 a7 a8 a9 a10 a11 a12 → ok (rec b1 b2 b3 b4 b5 b6 b7 b8 b9 b10 b11 b12) P) → ok (F rec a1 a2 a3 a4 a5 a6 a7 a8 a9 a10 a11 a12) P) : ∀ (n : Nat) (a1 : A1) (a2 : A2) (a3 : A3) (a4 : A4) (a5 : A5) (a6 : A6) (a7 : A7) (a8 : A8) (a9 : A9) (a10 : A10) (a11 : A11) (a12 : A12), I a1 a2 a3 a4 a5 a6 a7 a8 a9 a10 a11 a12 → μ a1 a2 a3 a4 a5 a6 a7 a8 a9 a10 a11 a12 < n → ok (fx12 F n a1 a2 a3 a4 a5 a6 a7 a8 a9 a10 a11 a12) P := by
  intro n
  induction n with
  | zero => intro a1 a2 a3 a4 a5 a6 a7 a8 a9 a10 a11 a12 _ h; exact absurd h (Nat.not_lt_zero _)
  | succ n ih => intro a1 a2 a3 a4 a5 a6 a7 a8 a9 a10 a11 a12 hi h; exact hs _ a1 a2 a3 a4 a5 a6 a7 a8 a9 a10 a11 a12 hi (fun b1 b2 b3 b4 b5 b6 b7 b8 b9 b10 b11 b12 hb hm => ih b1 b2 b3 b4 b5 b6 b7 b8 b9 b10 b11 b12 hb (by omega))
theorem ok_fx13 {A1 A2 A3 A4 A5 A6 A7 A8 A9 A10 A11 A12 A13 R : Type} {F : (A1 → A2 → A3 → A4 → A5 → A6 → A7 → A8 → A9 → A10 → A11 → A12 → A13 → Option R) → A1 → A2 → A3 → A4 → A5 → A6 → A7 → A8 → A9 → A10 → A11 → A12 → A13 → Option R} {P : R → Prop} (I : A1 → A2 → A3 → A4 → A5 → A6 → A7 → A8 → A9 → A10 → A11 → A12 → A13 → Prop) (μ : A1 → A2 → A3 → A4 → A5 → A6 → A7 → A8 → A9 → A10 → A11 → A12 → A13 → Nat) (hs : ∀ (rec : A1 → A2 → A3 → A4 → A5 → A6 → A7 → A8 → A9 → A10 → A11 → A12 → A13 → Option R) (a1 : A1) (a2 : A2) (a3 : A3) (a4 : A4) (a5 : A5) (a6 : A6) (a7 : A7) (a8 : A8) (a9 : A9) (a10 : A10) (a11 : A11) (a12 : A12) (a13 : A13), I a1 a2 a3 a4 a5 a6 a7 a8 a9 a10 a11 a12 a13 → (∀ (b1 : A1) (b2 : A2) (b3 : A3) (b4 : A4) (b5 : A5) (b6 : A6) (b7 : A7) (b8 : A8) (b9 : A9) (b10 : A10) (b11 : A11) (b12 : A12) (b13 : A13), I b1 b2 b3 b4 b5 b6 b7 b8 b9 b10 b11 b12 b13 → μ b1 b2 b3 b4 b5 b6 b7 b8 b9 b10 b11 b12 b13 < μ a1 a2 a3 a4 a5 a6 a7 a8 a9 a10 a11 a12 a13 → ok (rec b1 b2 b3 b4 b5 b6 b7 b8 b9 b10 b11 b12 b13) P) → ok (F rec a1 a2 a3 a4 a5 a6 a7 a8 a9 a10 a11 a12 a13) P) : ∀ (n : Nat) (a1 : A1) (a2 : A2) (a3 : A3) (a4 : A4) (a5 : A5) (a6 : A6) (a7 : A7) (a8 : A8) (a9 : A9) (a10 : A10) (a11 : A11) (a12 : A12) (a13 : A13), I a1 a2 a3 a4 a5 a6 a7 a8 a9 a10 a11 a12 a13 → μ a1 a2 a3 a4 a5 a6 a7 a8 a9 a10 a11 a12 a13 < n → ok (fx13 F n a1 a2 a3 a4 a5 a6 a7 a8 a9 a10 a11 a12 a13) P := by
  intro n
  induction n with
  | zero => intro a1 a2 a3 a4 a5 a6 a7 a8 a9 a10 a11 a12 a13 _ h; exact absurd h (Nat.not_lt_zero _)
  | succ n ih => intro a1 a2 a3 a4 a5 a6 a7 a8 a9 a10 a11 a12 a13 hi h; exact hs _ a1 a2 a3 a4 a5 a6 a7 a8 a9 a10 a11 a12 a13 hi (fun b1 b2 b3 b4 b5 b6 b7 b8 b9 b10 b11 b12 b13 hb hm => ih b1 b2 b3 b4 b5 b6 b7 b8 b9 b10 b11 b12 b13 hb (by omega))
theorem ok_fx14 {A1 A2 A3 A4 A5 A6 A7 A8 A9 A10 A11 A12 A13 A14 R : Type} {F : (A1 → A2 → A3 → A4 → A5 → A6 → A7 → A8 → A9 → A10 → A11 → A12 → A13 → A14 → Option R) → A1 → A2 → A3 → A4 → A5 → A6 → A7 → A8 → A9 → A10 → A11 → A12 → A13 → A14 → Option R} {P : R → Prop} (I : A1 → A2 → A3 → A4 → A5 → A6 → A7 → A8 → A9 → A10 → A11 → A12 → A13 → A14 → Prop) (μ : A1 → A2 → A3 → A4 → A5 → A6 → A7 → A8 → A9 → A10 → A11 → A12 → A13 → A14 → Nat) (hs : ∀ (rec : A1 → A2 → A3 → A4 → A5 → A6 → A7 → A8 → A9 → A10 → A11 → A12 → A13 → A14 → Option R) (a1 : A1) (a2 : A2) (a3 : A3) (a4 : A4) (a5 : A5) (a6 : A6) (a7 : A7) (a8 : A8) (a9 : A9) (a10 : A10) (a11 : A11) (a12 : A12) (a13 : A13) (a14 : A14), I a1 a2 a3 a4 a5 a6 a7 a8 a9 a10 a11 a12 a13 a14 → (∀ (b1 : A1) (b2 : A2) (b3 : A3) (b4 : A4) (b5 : A5) (b6 : A6) (b7 : A7) (b8 : A8) (b9 : A9) (b10 : A10) (b11 : A11) (b12 : A12) (b13 : A13) (b14 : A14), I b1 b2 b3 b4 b5 b6 b7 b8 b9 b10 b11 b12 b13 b14 → μ b1 b2 b3 b4 b5 b6 b7 b8 b9 b10 b11 b12 b13 b14 < μ a1 a2 a3 a4 a5 a6 a7 a8 a9 a10 a11 a12 a13 a14 → ok (rec b1 b2 b3 b4 b5 b6 b7 b8 b9 b10 b11 b12 b13 b14) P) → ok (F rec a1 a2 a3 a4 a5 a6 a7 a8 a9 a10 a11 a12 a13 a14) P) : ∀ (n : Nat) (a1 : A1) (a2 : A2) (a3 : A3) (a4 : A4) (a5 : A5) (a6 : A6) (a7 : A7) (a8 : A8) (a9 : A9) (a10 : A10) (a11 : A11) (a12 : A12) (a13 : A13) (a14 : A14), I a1 a2 a3 a4 a5 a6 a7 a8 a9 a10 a11 a12 a13 a14 → μ a1 a2 a3 a4 a5 a6 a7 a8 a9 a10 a11 a12 a13 a14 < n → ok (fx14 F n a1 a2 a3 a4 a5 a6 a7 a8 a9 a10 a11 a12 a13 a14) P := by
  intro n
  induction n with
  | zero => intro a1 a2 a3 a4 a5 a6 a7 a8 a9 a10 a11 a12 a13 a14 _ h; exact absurd h (Nat.not_lt_zero _)
  | succ n ih => intro a1 a2 a3 a4 a5 a6 a7 a8 a9 a10 a11 a12 a13 a14 hi h; exact hs _ a1 a2 a3 a4 a5 a6 a7 a8 a9 a10 a11 a12 a13 a14 hi (fun b1 b2 b3 b4 b5 b6 b7 b8 b9 b10 b11 b12 b13 b14 hb hm => ih b1 b2 b3 b4 b5 b6 b7 b8 b9 b10 b11 b12 b13 b14 hb (by omega))
-- contents within bounds
def rg (f : Nat → Int32) (n : Nat) (lo hi : Int) : Prop := ∀ j, j < n → lo ≤ (f j).toInt ∧ (f j).toInt ≤ hi
theorem rg_at {f : Nat → Int32} {n : Nat} {lo hi : Int} (h : rg f n lo hi) {x : Int32} (h1 : 0 ≤ x.toInt) (h2 : x.toInt < n) : lo ≤ (f x.toNatClampNeg).toInt ∧ (f x.toNatClampNeg).toInt ≤ hi := h _ (by have e : x.toNatClampNeg = x.toInt.toNat := rfl; omega)
theorem rg_upd {f : Nat → Int32} {n i : Nat} {lo hi : Int} {v : Int32} (h : rg f n lo hi) (hv : lo ≤ v.toInt ∧ v.toInt ≤ hi) : rg (upd f i v) n lo hi := by
  intro j hj
  by_cases e : j = i
  · subst e; rw [pk_us]; exact hv
  · rw [pk_un e]; exact h j hj
def gg (g : Nat → Nat → Int32) (n m : Nat) (lo hi : Int) : Prop := ∀ j, j < n → ∀ k, k < m → lo ≤ (g j k).toInt ∧ (g j k).toInt ≤ hi
theorem gg_at {g : Nat → Nat → Int32} {n m : Nat} {lo hi : Int} (h : gg g n m lo hi) {x y : Int32} (h1 : 0 ≤ x.toInt) (h2 : x.toInt < n) (h3 : 0 ≤ y.toInt) (h4 : y.toInt < m) : lo ≤ (g x.toNatClampNeg y.toNatClampNeg).toInt ∧ (g x.toNatClampNeg y.toNatClampNeg).toInt ≤ hi := h _ (by have e : x.toNatClampNeg = x.toInt.toNat := rfl; omega) _ (by have e : y.toNatClampNeg = y.toInt.toNat := rfl; omega)
theorem gg_up {g : Nat → Nat → Int32} {n m i k : Nat} {lo hi : Int} {v : Int32} (h : gg g n m lo hi) (hv : lo ≤ v.toInt ∧ v.toInt ≤ hi) : gg (gup g i k v) n m lo hi := by
  intro j hj q hq
  unfold gup
  by_cases e : j = i
  · subst e
    rw [if_pos rfl]
    by_cases e2 : q = k
    · subst e2; rw [pk_us]; exact hv
    · rw [pk_un e2]; exact h j hj q hq
  · rw [if_neg e]; exact h j hj q hq
theorem cl_n (x : Int32) : x.toNatClampNeg = x.toInt.toNat := rfl
