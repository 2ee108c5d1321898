-- 77.scan: the whole text by itself; a job read by the class
def tg (nm : Nat → Int) : Nat → Int → Nat
  | 0, _ => 0
  | J + 1, c => if nm (J + 1) = c then J + 1 else tg nm J c
theorem tg_le (nm : Nat → Int) (c : Int) : ∀ J, tg nm J c ≤ J := by
  intro J
  induction J with
  | zero => exact Nat.le_refl _
  | succ J ih =>
    unfold tg
    split <;> omega
theorem tg_eq {nm mm : Nat → Int} {c : Int} : ∀ J, (∀ j, 1 ≤ j → j ≤ J → mm j = nm j) → tg mm J c = tg nm J c := by
  intro J
  induction J with
  | zero => intro _; rfl
  | succ J ih =>
    intro h
    unfold tg
    rw [h (J + 1) (by omega) (Nat.le_refl _), ih (fun j h1 h2 => h j h1 (by omega))]
def bs (cn : Nat → Nat) : Nat → Nat
  | 0 => 0
  | j + 1 => bs cn j + cn (j + 1)
theorem bs_eq {cn dn : Nat → Nat} : ∀ J, (∀ j, 1 ≤ j → j ≤ J → dn j = cn j) → bs dn J = bs cn J := by
  intro J
  induction J with
  | zero => intro _; rfl
  | succ J ih =>
    intro h
    unfold bs
    rw [h (J + 1) (by omega) (Nat.le_refl _), ih (fun j h1 h2 => h j h1 (by omega))]
theorem bs_mono {cn : Nat → Nat} {i : Nat} : ∀ j, i ≤ j → bs cn i ≤ bs cn j := by
  intro j
  induction j with
  | zero => intro h; have : i = 0 := by omega
            subst this; exact Nat.le_refl _
  | succ j ih =>
    intro h
    by_cases e : i = j + 1
    · subst e; exact Nat.le_refl _
    · have h1 := ih (by omega)
      have h2 : bs cn (j + 1) = bs cn j + cn (j + 1) := rfl
      omega
theorem bs_step {cn : Nat → Nat} {j : Nat} (h : 1 ≤ j) : bs cn j = bs cn (j - 1) + cn j := by
  obtain ⟨i, rfl⟩ : ∃ i, j = i + 1 := ⟨j - 1, by omega⟩
  rfl
theorem bs_le {cn : Nat → Nat} : ∀ J, (∀ j, 1 ≤ j → j ≤ J → cn j ≤ 20) → bs cn J ≤ 20 * J := by
  intro J
  induction J with
  | zero => intro _; exact Nat.le_refl _
  | succ J ih =>
    intro h
    have h1 := ih (fun j h1 h2 => h j h1 (by omega))
    have h2 := h (J + 1) (by omega) (Nat.le_refl _)
    have h3 : bs cn (J + 1) = bs cn J + cn (J + 1) := rfl
    omega
theorem bs_find {cn : Nat → Nat} : ∀ J p, p < bs cn J → ∃ j k, 1 ≤ j ∧ j ≤ J ∧ k < cn j ∧ p = bs cn (j - 1) + k := by
  intro J
  induction J with
  | zero => intro p h; exact absurd h (Nat.not_lt_zero _)
  | succ J ih =>
    intro p h
    by_cases e : p < bs cn J
    · obtain ⟨j, k, h1, h2, h3, h4⟩ := ih p e
      exact ⟨j, k, h1, by omega, h3, h4⟩
    · have h3 : bs cn (J + 1) = bs cn J + cn (J + 1) := rfl
      refine ⟨J + 1, p - bs cn J, by omega, Nat.le_refl _, by omega, ?_⟩
      rw [show J + 1 - 1 = J from rfl]
      omega
theorem bs_lt {cn : Nat → Nat} {i j : Nat} (h : i < j) : bs cn i ≤ bs cn (j - 1) := bs_mono _ (by omega)
theorem bs_one {cn : Nat → Nat} {i j k l : Nat} (hi : 1 ≤ i) (hj : 1 ≤ j) (hk : k < cn i) (hl : l < cn j) (h : bs cn (i - 1) + k = bs cn (j - 1) + l) : i = j ∧ k = l := by
  have h1 := bs_step (cn := cn) hi
  have h2 := bs_step (cn := cn) hj
  rcases Nat.lt_trichotomy i j with q | q | q
  · have := bs_lt (cn := cn) q
    omega
  · subst q
    exact ⟨rfl, by omega⟩
  · have := bs_lt (cn := cn) q
    omega
def sj (T : Nat → Int) (n s : Nat) : Bool × Nat × Nat × (Nat → Nat) :=
  if (s4 T n 4 (s + 1)).1 = true then sn T n 21 0 (s4 T n 4 (s + 1)).2 (fun _ => 0) else (false, (s4 T n 4 (s + 1)).2, 0, fun _ => 0)
theorem sj_le {T : Nat → Int} {n s : Nat} (h : s < n) : (sj T n s).2.1 ≤ n ∧ (sj T n s).2.2.1 ≤ 20 ∧ ∀ i, i < (sj T n s).2.2.1 → (sj T n s).2.2.2 i < n ∧ 97 ≤ T ((sj T n s).2.2.2 i) ∧ T ((sj T n s).2.2.2 i) ≤ 122 := by
  unfold sj
  have h1 := s4_le (T := T) (n := n) 4 (s + 1) (by omega)
  split
  · have h2 := sn_le (T := T) (n := n) 21 0 (s4 T n 4 (s + 1)).2 (fun _ => 0) h1 (by omega)
    exact ⟨h2.1, h2.2.2.1, h2.2.2.2 (fun i hi => absurd hi (Nat.not_lt_zero _))⟩
  · exact ⟨h1, by show 0 ≤ 20; omega, fun i hi => absurd hi (Nat.not_lt_zero _)⟩
def sp (T : Nat → Int) (n : Nat) : Nat → Nat → Nat → (Nat → Int) → (Nat → Nat) → (Nat → Nat → Nat) → Bool × Nat × Nat × (Nat → Int) × (Nat → Nat) × (Nat → Nat → Nat)
  | 0, J, a, nm, cn, pl => (decide (n ≤ sk T n a), sk T n a, J, nm, cn, pl)
  | f + 1, J, a, nm, cn, pl =>
    if n ≤ sk T n a then (true, sk T n a, J, nm, cn, pl)
    else if 97 ≤ T (sk T n a) ∧ T (sk T n a) ≤ 122 ∧ tg nm J (T (sk T n a)) = 0 then
      if (sj T n (sk T n a)).1 = true then sp T n f (J + 1) (sj T n (sk T n a)).2.1 (fun j => if j = J + 1 then T (sk T n a) else nm j) (fun j => if j = J + 1 then (sj T n (sk T n a)).2.2.1 else cn j) (fun j => if j = J + 1 then (sj T n (sk T n a)).2.2.2 else pl j)
      else (false, (sj T n (sk T n a)).2.1, J, nm, cn, pl)
    else (false, sk T n a, J, nm, cn, pl)
theorem tf_job {N n s p0 : Nat} {pd len at0 nb0 jobs0 jb : Int32} {t jol ow np cn : Nat → Int32} {gn : Nat → Nat → Int32} (hl : len.toInt = (n : Int)) (hn : n ≤ 2000) (ha : at0.toInt = (s : Int)) (hs : s < n) (hpd : pd.toInt = (p0 : Int)) (hp0 : p0 ≤ 500) (hj : 1 ≤ jb.toInt ∧ jb.toInt ≤ 26) (hN : 4000 ≤ N) : ok (md_Tex_parseJob N pd len at0 nb0 t jol ow np cn jobs0 gn jb) (fun o =>
    (¬ (97 ≤ tx t s ∧ tx t s ≤ 122 ∧ (jol (tx t s - 97).toNat).toInt = 0) ∧ o.1.toInt = 0 ∧ o.2.2.1.toInt = (s : Int)) ∨
    ((97 ≤ tx t s ∧ tx t s ≤ 122 ∧ (jol (tx t s - 97).toNat).toInt = 0) ∧ (o.1.toInt = 0 ∨ o.1.toInt = 1) ∧ (o.1.toInt = 1 ↔ (sj (tx t) n s).1 = true) ∧ o.2.2.1.toInt = ((sj (tx t) n s).2.1 : Int) ∧ (o.1.toInt = 1 → o.2.1.toInt = (p0 : Int) + ((sj (tx t) n s).2.2.1 : Int) ∧ o.2.2.2.2.1 = upd jol (tx t s - 97).toNat jb ∧ o.2.2.2.2.2.2.2.2.1 = jb ∧ (∀ q, q < p0 → o.2.2.2.2.2.1 q = ow q ∧ o.2.2.2.2.2.2.1 q = np q) ∧ ∀ i, i < (sj (tx t) n s).2.2.1 → o.2.2.2.2.2.1 (p0 + i) = jb ∧ (o.2.2.2.2.2.2.1 (p0 + i)).toInt = ((sj (tx t) n s).2.2.2 i : Int)))) := by
  have hz : (0 : Int32).toInt = 0 := rfl
  have h4z : (4 : Int32).toInt = 4 := rfl
  have hm1 : (-1 : Int32).toInt = -1 := rfl
  have h01 : ¬ ((0 : Int32).toInt = 1) := by decide
  have hs1 : (at0 + (1 : Int32)).toInt = ((s + 1 : Nat) : Int) := by first | omega | (simp only [i_add, i_sub, i_mul, l_add, l_sub, Int32.reduceToInt, Int64.reduceToInt, cl_n, true_or, or_true, true_and, and_true, and_self] at *; omega) | (simp only [i_add, i_sub, i_mul, l_add, l_sub, Int32.reduceToInt, Int64.reduceToInt, cl_n, true_or, or_true, true_and, and_true, and_self] at *; done)
  unfold md_Tex_parseJob
  simp only [cl_n]
  refine ok_zc (tf_letter hl hn ha) (fun o1 ho1 => ok_eq (fun e1 => ok_some (Or.inl ⟨fun q => ?_, rfl, ha⟩)) (fun e1 => ?_))
  · rcases ho1 with ho1 | ho1
    · exact ho1.2 ⟨hs, q.1, q.2.1⟩
    · omega
  have hlet : 97 ≤ tx t s ∧ tx t s ≤ 122 ∧ o1.toInt = tx t s - 97 := by
    rcases ho1 with ho1 | ho1
    · omega
    · exact ho1.2
  have eix : o1.toInt.toNat = (tx t s - 97).toNat := by rw [hlet.2.2]
  simp only [eix]
  refine ok_in (by omega) (ok_eq (fun e2 => ok_in (by omega) (ok_zl ?_)) (fun e2 => ok_some (Or.inl ⟨fun q => e2 (q.2.2.trans hz.symm), rfl, ha⟩)))
  have hv : 97 ≤ tx t s ∧ tx t s ≤ 122 ∧ (jol (tx t s - 97).toNat).toInt = 0 := ⟨hlet.1, hlet.2.1, e2.trans hz⟩
  generalize h4 : s4 (tx t) n 4 (s + 1) = fin
  have hsj : sj (tx t) n s = if fin.1 = true then sn (tx t) n 21 0 fin.2 (fun _ => 0) else (false, fin.2, 0, fun _ => 0) := by
    unfold sj
    rw [h4]
  generalize sj (tx t) n s = r at hsj ⊢
  refine ok_fx4 (fun (x y _ : Int32) (_ : Nat → Nat → Int32) => ∃ (i b : Nat), i ≤ 4 ∧ x.toInt = (i : Int) ∧ y.toInt = (b : Int) ∧ b ≤ n ∧ s4 (tx t) n (4 - i) b = fin) (fun (x _ _ : Int32) (_ : Nat → Nat → Int32) => (4 - x.toInt).toNat) ?_ _ _ _ _ _ ⟨0, s + 1, by omega, hz, hs1, by omega, h4⟩ (by omega)
  intro rec x y w g hI ih
  obtain ⟨i, b, hi, hx, hy, hb, h5⟩ := hI
  unfold md_Tex_parseJob_F46
  simp only [cl_n]
  refine ok_le (fun e => ?_) (fun e => ?_)
  · have e4 : i = 4 := by omega
    subst e4
    have hf : fin = (true, b) := h5.symm
    rw [hf, if_pos rfl] at hsj
    refine ok_zc (tf_needs hl hn hy hb hpd hp0 hN) (fun o7 ho7 => ok_zb ho7.1 (ok_some (Or.inr ⟨hv, ho7.1, ?_, ?_, fun _ => ⟨?_, rfl, rfl, ho7.2.2.2.2.1, ?_⟩⟩)))
    · rw [hsj]; exact ho7.2.1
    · rw [hsj]; exact ho7.2.2.1
    · rw [hsj]; exact ho7.2.2.2.1
    · rw [hsj]; exact ho7.2.2.2.2.2
  · rw [show 4 - i = (3 - i) + 1 from by omega] at h5
    unfold s4 at h5
    have hsk := sk_le (T := tx t) hb
    refine ok_zc (tf_skip hl hn hy hb hN) (fun o8 ho8 => ok_zc (tf_number hl hn ho8 hsk hN) (fun o9 ho9 => ok_eq (fun e1 => ok_some (Or.inr ⟨hv, Or.inl rfl, ?_, ?_, fun q => absurd q h01⟩)) (fun e1 => ok_in (by omega) (ok_in (by omega) (ok_zl ?_)))))
    · have hno : (nu (tx t) n (sk (tx t) n b)).1 = false := by
        rcases ho9.2 with q | q
        · exact q.2
        · omega
      rw [hno] at h5
      have hf : fin = (false, (nu (tx t) n (sk (tx t) n b)).2) := h5.symm
      rw [hf] at hsj
      have hsk2 : r = (false, (nu (tx t) n (sk (tx t) n b)).2, 0, fun _ => 0) := hsj
      rw [hsk2]
      exact ⟨fun q => absurd q h01, fun q => absurd q Bool.false_ne_true⟩
    · have hno : (nu (tx t) n (sk (tx t) n b)).1 = false := by
        rcases ho9.2 with q | q
        · exact q.2
        · omega
      rw [hno] at h5
      have hf : fin = (false, (nu (tx t) n (sk (tx t) n b)).2) := h5.symm
      rw [hf] at hsj
      rw [hsj]
      exact ho9.1
    · have hyes : (nu (tx t) n (sk (tx t) n b)).1 = true := by
        rcases ho9.2 with q | q
        · omega
        · exact q.2
      rw [if_pos hyes] at h5
      have hx1 : (x + 1).toInt = x.toInt + 1 := by
        clear ho9 ih h5 hsj ho8 ho1
        first | omega | (simp only [i_add, i_sub, i_mul, l_add, l_sub, Int32.reduceToInt, Int64.reduceToInt, cl_n, true_or, or_true, true_and, and_true, and_self] at *; omega) | (simp only [i_add, i_sub, i_mul, l_add, l_sub, Int32.reduceToInt, Int64.reduceToInt, cl_n, true_or, or_true, true_and, and_true, and_self] at *; done)
      have hnu := nu_le (T := tx t) hsk
      exact ih _ _ _ _ ⟨i + 1, _, by omega, by omega, ho9.1, hnu.2, by rw [show 4 - (i + 1) = 3 - i from by omega]; exact h5⟩ (by omega)
