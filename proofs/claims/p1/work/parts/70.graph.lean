-- 70.graph: what needs what, at any depth; the sets of bits that the class keeps of it
def rc (E : Nat → Nat → Prop) : Nat → Nat → Nat → Prop
  | 0, a, b => a = b
  | n + 1, a, b => ∃ d, E a d ∧ rc E n d b
def RS (E : Nat → Nat → Prop) (a b : Nat) : Prop := ∃ n, rc E n a b
def RP (E : Nat → Nat → Prop) (a b : Nat) : Prop := ∃ d, E a d ∧ RS E d b
theorem RS.rfl {E : Nat → Nat → Prop} {a : Nat} : RS E a a := ⟨0, Eq.refl a⟩
theorem RP.rs {E : Nat → Nat → Prop} {a b : Nat} (h : RP E a b) : RS E a b := by
  obtain ⟨d, h1, n, h2⟩ := h
  exact ⟨n + 1, d, h1, h2⟩
theorem RS.cons {E : Nat → Nat → Prop} {a d b : Nat} (h : E a d) (h2 : RS E d b) : RS E a b := RP.rs ⟨d, h, h2⟩
theorem RS.trans {E : Nat → Nat → Prop} {a b c : Nat} (h : RS E a b) (h2 : RS E b c) : RS E a c := by
  obtain ⟨n, h⟩ := h
  induction n generalizing a with
  | zero => cases h; exact h2
  | succ n ih =>
    obtain ⟨d, h3, h4⟩ := h
    exact RS.cons h3 (ih h4)
theorem RS.cases {E : Nat → Nat → Prop} {a b : Nat} (h : RS E a b) : a = b ∨ RP E a b := by
  obtain ⟨n, h⟩ := h
  cases n with
  | zero => exact Or.inl h
  | succ n =>
    obtain ⟨d, h3, h4⟩ := h
    exact Or.inr ⟨d, h3, n, h4⟩
theorem RS.mono {E F : Nat → Nat → Prop} (hEF : ∀ a b, E a b → F a b) {a b : Nat} (h : RS E a b) : RS F a b := by
  obtain ⟨n, h⟩ := h
  induction n generalizing a with
  | zero => exact ⟨0, h⟩
  | succ n ih =>
    obtain ⟨d, h3, h4⟩ := h
    exact RS.cons (hEF _ _ h3) (ih h4)
-- one need more
theorem RS.more {E F : Nat → Nat → Prop} {x y : Nat} (hF : ∀ a b, F a b → E a b ∨ (a = x ∧ b = y)) {a b : Nat} (h : RS F a b) : RS E a b ∨ (RS E a x ∧ RS E y b) := by
  obtain ⟨n, h⟩ := h
  induction n generalizing a with
  | zero => exact Or.inl ⟨0, h⟩
  | succ n ih =>
    obtain ⟨d, h3, h4⟩ := h
    rcases hF _ _ h3 with h5 | ⟨h5, h6⟩
    · rcases ih h4 with h7 | ⟨h7, h8⟩
      · exact Or.inl (RS.cons h5 h7)
      · exact Or.inr ⟨RS.cons h5 h7, h8⟩
    · subst h5; subst h6
      rcases ih h4 with h7 | ⟨h7, h8⟩
      · exact Or.inr ⟨RS.rfl, h7⟩
      · exact Or.inr ⟨RS.rfl, h8⟩
theorem RP.more {E F : Nat → Nat → Prop} {x y : Nat} (hEF : ∀ a b, F a b ↔ E a b ∨ (a = x ∧ b = y)) {a b : Nat} : RP F a b ↔ RP E a b ∨ (RS E a x ∧ RS E y b) := by
  constructor
  · rintro ⟨d, h1, h2⟩
    have h3 := RS.more (fun a b => (hEF a b).mp) h2
    rcases (hEF _ _).mp h1 with h4 | ⟨h4, h5⟩
    · rcases h3 with h3 | ⟨h3, h6⟩
      · exact Or.inl ⟨d, h4, h3⟩
      · exact Or.inr ⟨RS.cons h4 h3, h6⟩
    · subst h4; subst h5
      rcases h3 with h3 | ⟨h3, h6⟩
      · exact Or.inr ⟨RS.rfl, h3⟩
      · exact Or.inr ⟨RS.rfl, h6⟩
  · have hm : ∀ a b, E a b → F a b := fun a b h => (hEF a b).mpr (Or.inl h)
    rintro (⟨d, h1, h2⟩ | ⟨h1, h2⟩)
    · exact ⟨d, hm _ _ h1, h2.mono hm⟩
    · have h3 : RP F x b := ⟨y, (hEF _ _).mpr (Or.inr ⟨rfl, rfl⟩), h2.mono hm⟩
      rcases (h1.mono hm).cases with h4 | ⟨d, h4, h5⟩
      · subst h4; exact h3
      · exact ⟨d, h4, h5.trans h3.rs⟩
-- a bit, as the class asks it and lays it
theorem b_one : ∀ i, i < 32 → bt 1 i = decide (i = 0) := by decide +kernel
theorem b_ask (x : Int32) {i : Nat} (hi : i < 32) : ((x >>> (nI i &&& 31)) &&& (1 : Int32)) = 0 ↔ bt x i = false := by
  have h0 : bt (x >>> (nI i &&& 31)) 0 = bt x i := by rw [b_sshr i hi x (by omega)]; simp [hi]
  constructor
  · intro h
    have h1 : bt ((x >>> (nI i &&& 31)) &&& (1 : Int32)) 0 = bt 0 0 := by rw [h]
    rw [b_and, b_one 0 (by omega), b_0, h0] at h1
    simpa using h1
  · intro h
    refine b_ext (fun j hj => ?_)
    rw [b_and, b_one j hj, b_0]
    by_cases e : j = 0
    · subst e; rw [h0, h]; rfl
    · simp [e]
theorem b_lay {i j : Nat} (hi : i < 32) (hj : j < 32) : bt ((1 : Int32) <<< (nI i &&& 31)) j = decide (j = i) := by
  rw [b_shl i hi 1 hj]
  by_cases e : i ≤ j
  · rw [b_one _ (by omega)]
    by_cases e2 : j = i
    · subst e2; simp
    · simp [e2]; omega
  · have : j ≠ i := by omega
    simp [e, this]
theorem i_nI {x : Int32} (h : 0 ≤ x.toInt) : x = nI x.toInt.toNat := by
  obtain ⟨n, hn, rfl⟩ : ∃ n : Nat, n < 2 ^ 31 ∧ x = nI n := nI_of (by rw [Int32.lt_iff_toInt_lt]; have : (0 : Int32).toInt = 0 := rfl; omega)
  rw [nI_toInt hn]
  rfl
theorem gf_depth {N : Nat} {al : Nat → Int32} {a b : Int32} (ha : 0 ≤ a.toInt ∧ a.toInt ≤ 26) (hb : 0 ≤ b.toInt ∧ b.toInt ≤ 26) : ok (md_Net_needsAtAnyDepth N al a b) (fun o => (o.toInt = 0 ∧ bt (al a.toInt.toNat) b.toInt.toNat = false) ∨ (o.toInt = 1 ∧ bt (al a.toInt.toNat) b.toInt.toNat = true)) := by
  unfold md_Net_needsAtAnyDepth
  refine ok_in (by omega) ?_
  have hk := b_ask (al a.toInt.toNat) (i := b.toInt.toNat) (by omega)
  rw [← i_nI hb.1] at hk
  rw [cl_n]
  refine ok_if (fun h => ok_some (Or.inl ⟨rfl, hk.mp h⟩)) (fun h => ok_some (Or.inr ⟨rfl, ?_⟩))
  cases hq : bt (al a.toInt.toNat) b.toInt.toNat with
  | true => rfl
  | false => exact absurd (hk.mpr hq) h
theorem gf_closes {N : Nat} {al : Nat → Int32} {a b : Int32} (ha : 0 ≤ a.toInt ∧ a.toInt ≤ 26) (hb : 0 ≤ b.toInt ∧ b.toInt ≤ 26) : ok (md_Net_closesRing N al a b) (fun o => (o.toInt = 0 ∧ a.toInt ≠ b.toInt ∧ bt (al b.toInt.toNat) a.toInt.toNat = false) ∨ (o.toInt = 1 ∧ (a.toInt = b.toInt ∨ bt (al b.toInt.toNat) a.toInt.toNat = true))) := by
  have hz : (0 : Int32).toInt = 0 := rfl
  unfold md_Net_closesRing
  refine ok_eq (fun h => ok_some (Or.inr ⟨rfl, Or.inl h⟩)) (fun h => ok_zc (gf_depth hb ha) (fun o ho => ok_eq (fun h0 => ok_some (Or.inl ⟨rfl, h, ?_⟩)) (fun h0 => ok_some (Or.inr ⟨rfl, Or.inr ?_⟩))))
  · rcases ho with ho | ho
    · exact ho.2
    · omega
  · rcases ho with ho | ho
    · omega
    · exact ho.2
-- a need is laid down
theorem gf_addNeed {N : Nat} {jobs x y cd : Int32} {nc al : Nat → Int32} {nd g2 : Nat → Nat → Int32} (hj : 0 ≤ jobs.toInt ∧ jobs.toInt ≤ 26) (hx : 1 ≤ x.toInt ∧ x.toInt ≤ 26) (hy : 1 ≤ y.toInt ∧ y.toInt ≤ 26) (hc : 0 ≤ (nc x.toInt.toNat).toInt ∧ (nc x.toInt.toNat).toInt < 20) (hN : 4000 ≤ N) :
    ok (md_Net_addNeed N jobs nc nd g2 al x y cd) (fun o => o.1 = upd nc x.toInt.toNat (nc x.toInt.toNat + 1) ∧ o.2.1 = gup nd x.toInt.toNat (nc x.toInt.toNat).toInt.toNat y ∧ (∀ a : Nat, 1 ≤ a → (a : Int) ≤ jobs.toInt → ∀ b : Nat, b < 32 → bt (o.2.2.2 a) b = (bt (al a) b || ((decide (a = x.toInt.toNat) || bt (al a) x.toInt.toNat) && (bt (al y.toInt.toNat) b || decide (b = y.toInt.toNat)))))) := by
  have hz : (0 : Int32).toInt = 0 := rfl
  have h1 : (1 : Int32).toInt = 1 := rfl
  have h20 : (20 : Int32).toInt = 20 := rfl
  unfold md_Net_addNeed
  simp only [cl_n]
  refine ok_in (by omega) (ok_lt (fun _ => ?_) (fun h => by omega))
  refine ok_in (by omega) (ok_in (by omega) (ok_zl (ok_in (by omega) (ok_in (by omega) (ok_zl (ok_in (by omega) (ok_zl (ok_in (by omega) (ok_zl ?_)))))))))
  generalize hx6 : (al y.toInt.toNat) ||| ((1 : Int32) <<< (y &&& 31)) = x6
  have hb6 : ∀ b, b < 32 → bt x6 b = (bt (al y.toInt.toNat) b || decide (b = y.toInt.toNat)) := by
    intro b hb
    rw [← hx6, b_or]
    have h9 := b_lay (i := y.toInt.toNat) (j := b) (by omega) hb
    rw [← i_nI (by omega)] at h9
    rw [h9]
  refine ok_fx2 (fun u f => 1 ≤ u.toInt ∧ u.toInt ≤ 27 ∧ (∀ a : Nat, u.toInt ≤ (a : Int) → f a = al a) ∧ ∀ a : Nat, 1 ≤ a → (a : Int) < u.toInt → ∀ b : Nat, b < 32 → bt (f a) b = (bt (al a) b || ((decide (a = x.toInt.toNat) || bt (al a) x.toInt.toNat) && bt x6 b))) (fun u _ => (27 - u.toInt).toNat) ?_ _ _ _ ⟨by omega, by omega, fun a _ => rfl, fun a q1 q2 => by omega⟩ (by omega)
  intro rec u f hI ih
  unfold md_Net_addNeed_F61
  obtain ⟨hu1, hu2, hu3, hu4⟩ := hI
  refine ok_lt (fun hd => ok_some ⟨rfl, rfl, fun a q1 q2 b hb => ?_⟩) (fun hd => ?_)
  · show bt (f a) b = _
    rw [hu4 a q1 (by omega) b hb, hb6 b hb]
  have hup : (u + 1).toInt = u.toInt + 1 := by first | omega | (simp only [i_add, i_sub, i_mul, l_add, l_sub, Int32.reduceToInt, Int64.reduceToInt, cl_n, true_or, or_true, true_and, and_true, and_self] at *; omega) | (simp only [i_add, i_sub, i_mul, l_add, l_sub, Int32.reduceToInt, Int64.reduceToInt, cl_n, true_or, or_true, true_and, and_true, and_self] at *; done)
  have hfu : f u.toInt.toNat = al u.toInt.toNat := hu3 _ (by omega)
  have hset : (decide (u.toInt.toNat = x.toInt.toNat) || bt (al u.toInt.toNat) x.toInt.toNat) = true → ok (rec (u + 1) (upd f u.toNatClampNeg (f u.toNatClampNeg ||| x6))) (fun o => o.1 = upd nc x.toInt.toNat (nc x.toInt.toNat + 1) ∧ o.2.1 = gup nd x.toInt.toNat (nc x.toInt.toNat).toInt.toNat y ∧ (∀ a : Nat, 1 ≤ a → (a : Int) ≤ jobs.toInt → ∀ b : Nat, b < 32 → bt (o.2.2.2 a) b = (bt (al a) b || ((decide (a = x.toInt.toNat) || bt (al a) x.toInt.toNat) && (bt (al y.toInt.toNat) b || decide (b = y.toInt.toNat)))))) := by
    intro hq
    refine ih _ _ ⟨by omega, by omega, fun a ha => ?_, fun a q1 q2 b hb => ?_⟩ (by omega)
    · rw [pk_un (by rw [cl_n]; omega)]; exact hu3 a (by omega)
    · by_cases e : a = u.toInt.toNat
      · subst e
        rw [cl_n, pk_us, b_or, hfu, hq, Bool.true_and]
      · rw [pk_un (by rw [cl_n]; exact e)]
        exact hu4 a q1 (by omega) b hb
  have hkeep : (decide (u.toInt.toNat = x.toInt.toNat) || bt (al u.toInt.toNat) x.toInt.toNat) = false → ok (rec (u + 1) f) (fun o => o.1 = upd nc x.toInt.toNat (nc x.toInt.toNat + 1) ∧ o.2.1 = gup nd x.toInt.toNat (nc x.toInt.toNat).toInt.toNat y ∧ (∀ a : Nat, 1 ≤ a → (a : Int) ≤ jobs.toInt → ∀ b : Nat, b < 32 → bt (o.2.2.2 a) b = (bt (al a) b || ((decide (a = x.toInt.toNat) || bt (al a) x.toInt.toNat) && (bt (al y.toInt.toNat) b || decide (b = y.toInt.toNat)))))) := by
    intro hq
    refine ih _ _ ⟨by omega, by omega, fun a ha => hu3 a (by omega), fun a q1 q2 b hb => ?_⟩ (by omega)
    by_cases e : a = u.toInt.toNat
    · subst e
      rw [hfu, hq]; simp
    · exact hu4 a q1 (by omega) b hb
  refine ok_eq (fun he => ok_in (by omega) (ok_in (by omega) (ok_zl (hset ?_)))) (fun he => ?_)
  · rw [he]; simp
  · refine ok_zc (gf_depth (by omega) (by omega)) (fun o ho => ok_eq (fun h0 => hkeep ?_) (fun h0 => ok_in (by omega) (ok_in (by omega) (ok_zl (hset ?_)))))
    · rcases ho with ho | ho
      · rw [hfu] at ho
        have : u.toInt.toNat ≠ x.toInt.toNat := by omega
        rw [ho.2, decide_eq_false this]
        rfl
      · omega
    · rcases ho with ho | ho
      · omega
      · rw [hfu] at ho
        rw [ho.2]; simp
