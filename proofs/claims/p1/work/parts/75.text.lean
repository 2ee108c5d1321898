-- 75.text: a text, read by itself: where blanks end, numbers, needs; class and reference read so
def skf (T : Nat → Int) (n : Nat) : Nat → Nat → Nat
  | 0, a => a
  | f + 1, a => if a < n ∧ (T a = 32 ∨ T a = 10) then skf T n f (a + 1) else a
def sk (T : Nat → Int) (n a : Nat) : Nat := skf T n (n - a) a
theorem sk_eq (T : Nat → Int) (n a : Nat) : sk T n a = if a < n ∧ (T a = 32 ∨ T a = 10) then sk T n (a + 1) else a := by
  unfold sk
  by_cases h : a < n
  · rw [show n - a = (n - (a + 1)) + 1 from by omega]
    rfl
  · rw [show n - a = 0 from by omega, if_neg (fun q => h q.1)]
    rfl
theorem skf_ge (T : Nat → Int) (n : Nat) : ∀ f a, a ≤ skf T n f a ∧ (f = n - a → a ≤ n → skf T n f a ≤ n ∧ ¬ (skf T n f a < n ∧ (T (skf T n f a) = 32 ∨ T (skf T n f a) = 10))) := by
  intro f
  induction f with
  | zero =>
    intro a
    refine ⟨Nat.le_refl _, fun e h => ⟨h, fun q => ?_⟩⟩
    have q1 : a < n := q.1
    omega
  | succ f ih =>
    intro a
    unfold skf
    by_cases h : a < n ∧ (T a = 32 ∨ T a = 10)
    · rw [if_pos h]
      exact ⟨by have := (ih (a + 1)).1; omega, fun e h9 => (ih (a + 1)).2 (by omega) (by omega)⟩
    · rw [if_neg h]
      exact ⟨Nat.le_refl _, fun _ h9 => ⟨h9, h⟩⟩
theorem sk_ge (T : Nat → Int) (n a : Nat) : a ≤ sk T n a := (skf_ge T n _ a).1
theorem sk_le {T : Nat → Int} {n a : Nat} (h : a ≤ n) : sk T n a ≤ n := ((skf_ge T n _ a).2 rfl h).1
theorem sk_no {T : Nat → Int} {n a : Nat} (h : a ≤ n) : ¬ (sk T n a < n ∧ (T (sk T n a) = 32 ∨ T (sk T n a) = 10)) := ((skf_ge T n _ a).2 rfl h).2
theorem sk_sk {T : Nat → Int} {n a : Nat} (h : a ≤ n) : sk T n (sk T n a) = sk T n a := by
  rw [sk_eq T n (sk T n a), if_neg (sk_no h)]
def nuf (T : Nat → Int) (n : Nat) : Nat → Nat → Nat → Bool × Nat
  | 0, _, a => (false, a)
  | f + 1, d, a => if a < n ∧ 48 ≤ T a ∧ T a ≤ 57 then (if d = 6 then (false, a) else nuf T n f (d + 1) (a + 1)) else (decide (0 < d), a)
def nu (T : Nat → Int) (n a : Nat) : Bool × Nat := nuf T n 7 0 a
theorem nuf_le (T : Nat → Int) (n : Nat) : ∀ f d a, a ≤ n → a ≤ (nuf T n f d a).2 ∧ (nuf T n f d a).2 ≤ n := by
  intro f
  induction f with
  | zero => intro d a h; exact ⟨Nat.le_refl _, h⟩
  | succ f ih =>
    intro d a h
    unfold nuf
    split
    · split
      · exact ⟨Nat.le_refl _, h⟩
      · have := ih (d + 1) (a + 1) (by omega)
        exact ⟨by omega, this.2⟩
    · exact ⟨Nat.le_refl _, h⟩
-- the text of the class
def tx (t : Nat → Int32) (i : Nat) : Int := (t i).toInt
theorem tf_skip {N n a : Nat} {len at0 : Int32} {t : Nat → Int32} (hl : len.toInt = (n : Int)) (hn : n ≤ 2000) (ha : at0.toInt = (a : Int)) (han : a ≤ n) (hN : 4000 ≤ N) : ok (md_Tex_skipBlanks N len at0 t) (fun o => o.toInt = (sk (tx t) n a : Int)) := by
  have h32 : (32 : Int32).toInt = 32 := rfl
  have h10 : (10 : Int32).toInt = 10 := rfl
  unfold md_Tex_skipBlanks
  refine ok_fx1 (fun (x : Int32) => ∃ b : Nat, x.toInt = (b : Int) ∧ b ≤ n ∧ sk (tx t) n b = sk (tx t) n a) (fun (x : Int32) => (n - x.toInt).toNat) ?_ _ _ ⟨a, ha, han, rfl⟩ (by omega)
  intro rec x hI ih
  obtain ⟨b, hx, hb, hs⟩ := hI
  unfold md_Tex_skipBlanks_F0
  have ex : x.toInt.toNat = b := by omega
  simp only [cl_n, ex]
  have hq := sk_eq (tx t) n b
  refine ok_le (fun h => ok_some ?_) (fun h => ?_)
  · rw [if_neg (fun q => by omega)] at hq
    rw [← hs, hq]; exact hx
  have hx1 : (x + (1 : Int32)).toInt = x.toInt + 1 := by
    clear hs hq ih
    first | omega | (simp only [i_add, i_sub, i_mul, l_add, l_sub, Int32.reduceToInt, Int64.reduceToInt, cl_n, true_or, or_true, true_and, and_true, and_self] at *; omega) | (simp only [i_add, i_sub, i_mul, l_add, l_sub, Int32.reduceToInt, Int64.reduceToInt, cl_n, true_or, or_true, true_and, and_true, and_self] at *; done)
  have hgo : (tx t b = 32 ∨ tx t b = 10) → ok (rec (x + (1 : Int32))) (fun o => o.toInt = (sk (tx t) n a : Int)) := by
    intro hbl
    rw [if_pos ⟨by omega, hbl⟩] at hq
    exact ih _ ⟨b + 1, by omega, by omega, hq.symm.trans hs⟩ (by omega)
  refine ok_in (by omega) (ok_eq (fun h0 => hgo (Or.inl (h0.trans h32))) (fun h0 => ok_in (by omega) (ok_eq (fun h1 => hgo (Or.inr (h1.trans h10))) (fun h1 => ok_some ?_))))
  rw [if_neg (fun q => q.2.elim (fun z => h0 (z.trans h32.symm)) (fun z => h1 (z.trans h10.symm)))] at hq
  rw [← hs, hq]; exact hx
theorem tf_here {N n a : Nat} {len at0 c : Int32} {t : Nat → Int32} (hl : len.toInt = (n : Int)) (hn : n ≤ 2000) (ha : at0.toInt = (a : Int)) : ok (md_Tex_isHere N len at0 t c) (fun o => (o.toInt = 0 ∧ ¬ (a < n ∧ tx t a = c.toInt)) ∨ (o.toInt = 1 ∧ a < n ∧ tx t a = c.toInt)) := by
  unfold md_Tex_isHere
  have ex : at0.toInt.toNat = a := by omega
  simp only [cl_n, ex]
  exact ok_le (fun h => ok_some (Or.inl ⟨rfl, fun q => by omega⟩)) (fun h => ok_in (by omega) (ok_eq (fun h0 => ok_some (Or.inr ⟨rfl, by omega, h0⟩)) (fun h0 => ok_some (Or.inl ⟨rfl, fun q => h0 q.2⟩))))
theorem tf_letter {N n a : Nat} {len at0 : Int32} {t : Nat → Int32} (hl : len.toInt = (n : Int)) (hn : n ≤ 2000) (ha : at0.toInt = (a : Int)) : ok (md_Tex_letterHere N len at0 t) (fun o => (o.toInt = -1 ∧ ¬ (a < n ∧ 97 ≤ tx t a ∧ tx t a ≤ 122)) ∨ (a < n ∧ 97 ≤ tx t a ∧ tx t a ≤ 122 ∧ o.toInt = tx t a - 97)) := by
  have h97 : (97 : Int32).toInt = 97 := rfl
  have h122 : (122 : Int32).toInt = 122 := rfl
  unfold md_Tex_letterHere
  have ex : at0.toInt.toNat = a := by omega
  simp only [cl_n, ex]
  have et : tx t a = (t a).toInt := rfl
  refine ok_le (fun h => ok_some (Or.inl ⟨rfl, fun q => by omega⟩)) (fun h => ok_in (by omega) (ok_lt (fun h0 => ok_some (Or.inl ⟨rfl, fun q => by omega⟩)) (fun h0 => ok_in (by omega) (ok_le (fun h1 => ok_in (by omega) (ok_some (Or.inr ⟨by omega, by omega, by omega, ?_⟩))) (fun h1 => ok_some (Or.inl ⟨rfl, fun q => by omega⟩))))))
  rw [et]
  first | omega | (simp only [i_add, i_sub, i_mul, l_add, l_sub, Int32.reduceToInt, Int64.reduceToInt, cl_n, true_or, or_true, true_and, and_true, and_self] at *; omega) | (simp only [i_add, i_sub, i_mul, l_add, l_sub, Int32.reduceToInt, Int64.reduceToInt, cl_n, true_or, or_true, true_and, and_true, and_self] at *; done)
theorem tf_number {N n a : Nat} {len at0 nb0 : Int32} {t : Nat → Int32} (hl : len.toInt = (n : Int)) (hn : n ≤ 2000) (ha : at0.toInt = (a : Int)) (han : a ≤ n) (hN : 4000 ≤ N) : ok (md_Tex_parseNumber N len at0 nb0 t) (fun o => o.2.1.toInt = ((nu (tx t) n a).2 : Int) ∧ ((o.1.toInt = 0 ∧ (nu (tx t) n a).1 = false) ∨ (o.1.toInt = 1 ∧ (nu (tx t) n a).1 = true))) := by
  have hz : (0 : Int32).toInt = 0 := rfl
  have h48 : (48 : Int32).toInt = 48 := rfl
  have h57 : (57 : Int32).toInt = 57 := rfl
  have h6 : (6 : Int32).toInt = 6 := rfl
  unfold md_Tex_parseNumber
  refine ok_fx3 (fun (d x _ : Int32) => ∃ (k b : Nat), k ≤ 6 ∧ d.toInt = (k : Int) ∧ x.toInt = (b : Int) ∧ b ≤ n ∧ nuf (tx t) n (7 - k) k b = nu (tx t) n a) (fun (d _ _ : Int32) => (7 - d.toInt).toNat) ?_ _ _ _ _ ⟨0, a, by omega, hz, ha, han, rfl⟩ (by omega)
  intro rec d x v hI ih
  obtain ⟨k, b, hk, hd, hx, hb, hs⟩ := hI
  rw [show 7 - k = (6 - k) + 1 from by omega] at hs
  unfold nuf at hs
  unfold md_Tex_parseNumber_F7
  have ex : x.toInt.toNat = b := by omega
  simp only [cl_n, ex]
  have et : tx t b = (t b).toInt := rfl
  have hstop : ¬ (b < n ∧ 48 ≤ tx t b ∧ tx t b ≤ 57) → ok (if d ≤ 0 then (some ((0 : Int32), x, v)) else (some ((1 : Int32), x, v))) (fun o => o.2.1.toInt = ((nu (tx t) n a).2 : Int) ∧ ((o.1.toInt = 0 ∧ (nu (tx t) n a).1 = false) ∨ (o.1.toInt = 1 ∧ (nu (tx t) n a).1 = true))) := by
    intro hno
    rw [if_neg hno] at hs
    rw [← hs]
    refine ok_le (fun h => ok_some ⟨hx, Or.inl ⟨rfl, ?_⟩⟩) (fun h => ok_some ⟨hx, Or.inr ⟨rfl, ?_⟩⟩)
    · show decide (0 < k) = false
      exact decide_eq_false (by omega)
    · show decide (0 < k) = true
      exact decide_eq_true (by omega)
  refine ok_le (fun h => hstop (fun q => by omega)) (fun h => ok_in (by omega) (ok_lt (fun h0 => hstop (fun q => by omega)) (fun h0 => ok_in (by omega) (ok_lt (fun h1 => hstop (fun q => by omega)) (fun h1 => ?_)))))
  rw [if_pos ⟨by omega, by omega, by omega⟩] at hs
  refine ok_eq (fun h2 => ok_some ?_) (fun h2 => ok_in (by omega) (ok_zl ?_))
  · rw [if_pos (by omega)] at hs
    rw [← hs]
    exact ⟨hx, Or.inl ⟨rfl, rfl⟩⟩
  · rw [if_neg (by omega)] at hs
    have hd1 : (d + 1).toInt = d.toInt + 1 := by
      clear hs ih hstop
      first | omega | (simp only [i_add, i_sub, i_mul, l_add, l_sub, Int32.reduceToInt, Int64.reduceToInt, cl_n, true_or, or_true, true_and, and_true, and_self] at *; omega) | (simp only [i_add, i_sub, i_mul, l_add, l_sub, Int32.reduceToInt, Int64.reduceToInt, cl_n, true_or, or_true, true_and, and_true, and_self] at *; done)
    have hx1 : (x + (1 : Int32)).toInt = x.toInt + 1 := by
      clear hs ih hstop
      first | omega | (simp only [i_add, i_sub, i_mul, l_add, l_sub, Int32.reduceToInt, Int64.reduceToInt, cl_n, true_or, or_true, true_and, and_true, and_self] at *; omega) | (simp only [i_add, i_sub, i_mul, l_add, l_sub, Int32.reduceToInt, Int64.reduceToInt, cl_n, true_or, or_true, true_and, and_true, and_self] at *; done)
    refine ih _ _ _ ⟨k + 1, b + 1, by omega, by omega, by omega, by omega, ?_⟩ (by omega)
    rw [show 7 - (k + 1) = 6 - k from by omega]
    exact hs
-- the text of the reference: what is below 0 is 0
def tr (n : Nat) (t u : Nat → Int32) : Prop := ∀ i, i < n → ((t i).toInt < 0 ∧ (u i).toInt = 0) ∨ (0 ≤ (t i).toInt ∧ (u i).toInt = (t i).toInt)
theorem uf_at {N n a : Nat} {len k : Int32} {t u : Nat → Int32} (ht : tr n t u) (hl : len.toInt = (n : Int)) (hn : n ≤ 2000) (hk : k.toInt = (a : Int)) : ok (md_B_at N len u k) (fun o => (n ≤ a ∧ o.toInt = -1) ∨ (a < n ∧ o = u a ∧ ((tx t a < 0 ∧ o.toInt = 0) ∨ (0 ≤ tx t a ∧ o.toInt = tx t a)))) := by
  unfold md_B_at
  have ex : k.toInt.toNat = a := by omega
  simp only [cl_n, ex]
  exact ok_le (fun h => ok_some (Or.inl ⟨by omega, rfl⟩)) (fun h => ok_in (by omega) (ok_some (Or.inr ⟨by omega, rfl, ht a (by omega)⟩)))
theorem uf_sign {N n a : Nat} {len at0 : Int32} {t u : Nat → Int32} (ht : tr n t u) (hl : len.toInt = (n : Int)) (hn : n ≤ 2000) (ha : at0.toInt = (a : Int)) (han : a ≤ n) (hN : 4000 ≤ N) : ok (md_B_sign2 N len at0 u) (fun o => o.2.toInt = (sk (tx t) n a : Int) ∧ ((n ≤ sk (tx t) n a ∧ o.1.toInt = -1) ∨ (sk (tx t) n a < n ∧ o.1 = u (sk (tx t) n a) ∧ ((tx t (sk (tx t) n a) < 0 ∧ o.1.toInt = 0) ∨ (0 ≤ tx t (sk (tx t) n a) ∧ o.1.toInt = tx t (sk (tx t) n a)))))) := by
  have h32 : (32 : Int32).toInt = 32 := rfl
  have h10 : (10 : Int32).toInt = 10 := rfl
  unfold md_B_sign2
  refine ok_fx1 (fun (x : Int32) => ∃ b : Nat, x.toInt = (b : Int) ∧ b ≤ n ∧ sk (tx t) n b = sk (tx t) n a) (fun (x : Int32) => (n - x.toInt).toNat) ?_ _ _ ⟨a, ha, han, rfl⟩ (by omega)
  intro rec x hI ih
  obtain ⟨b, hx, hb, hs⟩ := hI
  unfold md_B_sign2_F0
  have hq := sk_eq (tx t) n b
  have hgo : b < n → (tx t b = 32 ∨ tx t b = 10) → ok (rec (x + (1 : Int32))) (fun o => o.2.toInt = (sk (tx t) n a : Int) ∧ ((n ≤ sk (tx t) n a ∧ o.1.toInt = -1) ∨ (sk (tx t) n a < n ∧ o.1 = u (sk (tx t) n a) ∧ ((tx t (sk (tx t) n a) < 0 ∧ o.1.toInt = 0) ∨ (0 ≤ tx t (sk (tx t) n a) ∧ o.1.toInt = tx t (sk (tx t) n a)))))) := by
    intro hbn hbl
    have hx1 : (x + (1 : Int32)).toInt = x.toInt + 1 := by
      clear hs hq ih
      first | omega | (simp only [i_add, i_sub, i_mul, l_add, l_sub, Int32.reduceToInt, Int64.reduceToInt, cl_n, true_or, or_true, true_and, and_true, and_self] at *; omega) | (simp only [i_add, i_sub, i_mul, l_add, l_sub, Int32.reduceToInt, Int64.reduceToInt, cl_n, true_or, or_true, true_and, and_true, and_self] at *; done)
    rw [if_pos ⟨hbn, hbl⟩] at hq
    exact ih _ ⟨b + 1, by omega, by omega, hq.symm.trans hs⟩ (by omega)
  refine ok_zc (uf_at ht hl hn hx) (fun o2 ho2 => ok_eq (fun h0 => hgo (by omega) (by omega)) (fun h0 => ?_))
  refine ok_zc (uf_at ht hl hn hx) (fun o3 ho3 => ok_eq (fun h1 => hgo (by omega) (by omega)) (fun h1 => ?_))
  refine ok_zc (uf_at ht hl hn hx) (fun o4 ho4 => ok_some ?_)
  have hno : ¬ (b < n ∧ (tx t b = 32 ∨ tx t b = 10)) := by
    rintro ⟨q1, q2⟩
    rcases ho2 with ho2 | ⟨-, -, ho2⟩
    · omega
    · rcases ho3 with ho3 | ⟨-, -, ho3⟩
      · omega
      · omega
  rw [if_neg hno] at hq
  rw [← hs, hq]
  refine ⟨hx, ?_⟩
  rcases ho4 with ho4 | ho4
  · exact Or.inl ho4
  · exact Or.inr ho4
theorem uf_digit {N : Nat} {c : Int32} : ok (md_B_isDigit N c) (fun o => (o.toInt = 0 ∧ ¬ (48 ≤ c.toInt ∧ c.toInt ≤ 57)) ∨ (o.toInt = 1 ∧ 48 ≤ c.toInt ∧ c.toInt ≤ 57)) := by
  unfold md_B_isDigit
  repeat' (first | (exact ok_some (by first | omega | (simp only [i_add, i_sub, i_mul, l_add, l_sub, Int32.reduceToInt, Int64.reduceToInt, cl_n, true_or, or_true, true_and, and_true, and_self] at *; omega) | (simp only [i_add, i_sub, i_mul, l_add, l_sub, Int32.reduceToInt, Int64.reduceToInt, cl_n, true_or, or_true, true_and, and_true, and_self] at *; done))) | (refine ok_in (by first | omega | (simp only [i_add, i_sub, i_mul, l_add, l_sub, Int32.reduceToInt, Int64.reduceToInt, cl_n, true_or, or_true, true_and, and_true, and_self] at *; omega) | (simp only [i_add, i_sub, i_mul, l_add, l_sub, Int32.reduceToInt, Int64.reduceToInt, cl_n, true_or, or_true, true_and, and_true, and_self] at *; done)) ?_) | (refine ok_lt (fun _ => ?_) (fun _ => ?_)) | (refine ok_le (fun _ => ?_) (fun _ => ?_)) | (refine ok_eq (fun _ => ?_) (fun _ => ?_)) | (refine ok_ltL (fun _ => ?_) (fun _ => ?_)) | (refine ok_leL (fun _ => ?_) (fun _ => ?_)) | (refine ok_eqL (fun _ => ?_) (fun _ => ?_)) | (refine ok_zl ?_))
theorem uf_name {N : Nat} {c : Int32} : ok (md_B_isName N c) (fun o => (o.toInt = 0 ∧ ¬ (97 ≤ c.toInt ∧ c.toInt ≤ 122)) ∨ (o.toInt = 1 ∧ 97 ≤ c.toInt ∧ c.toInt ≤ 122)) := by
  unfold md_B_isName
  repeat' (first | (exact ok_some (by first | omega | (simp only [i_add, i_sub, i_mul, l_add, l_sub, Int32.reduceToInt, Int64.reduceToInt, cl_n, true_or, or_true, true_and, and_true, and_self] at *; omega) | (simp only [i_add, i_sub, i_mul, l_add, l_sub, Int32.reduceToInt, Int64.reduceToInt, cl_n, true_or, or_true, true_and, and_true, and_self] at *; done))) | (refine ok_in (by first | omega | (simp only [i_add, i_sub, i_mul, l_add, l_sub, Int32.reduceToInt, Int64.reduceToInt, cl_n, true_or, or_true, true_and, and_true, and_self] at *; omega) | (simp only [i_add, i_sub, i_mul, l_add, l_sub, Int32.reduceToInt, Int64.reduceToInt, cl_n, true_or, or_true, true_and, and_true, and_self] at *; done)) ?_) | (refine ok_lt (fun _ => ?_) (fun _ => ?_)) | (refine ok_le (fun _ => ?_) (fun _ => ?_)) | (refine ok_eq (fun _ => ?_) (fun _ => ?_)) | (refine ok_ltL (fun _ => ?_) (fun _ => ?_)) | (refine ok_leL (fun _ => ?_) (fun _ => ?_)) | (refine ok_eqL (fun _ => ?_) (fun _ => ?_)) | (refine ok_zl ?_))
