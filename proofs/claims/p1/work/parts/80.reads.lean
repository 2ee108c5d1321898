-- 80.reads: the reference reads a number, a name, a job
theorem uf_number {N n a : Nat} {len at0 : Int32} {t u : Nat → Int32} (ht : tr n t u) (hl : len.toInt = (n : Int)) (hn : n ≤ 2000) (ha : at0.toInt = (a : Int)) (han : a ≤ n) (hN : 4000 ≤ N) : ok (md_B_number N len at0 u) (fun o => o.2.toInt = ((nu (tx t) n (sk (tx t) n a)).2 : Int) ∧ ((o.1.toInt = -1 ∧ (nu (tx t) n (sk (tx t) n a)).1 = false) ∨ (0 ≤ o.1.toInt ∧ o.1.toInt ≤ 999999 ∧ (nu (tx t) n (sk (tx t) n a)).1 = true))) := by
  have hz : (0 : Int32).toInt = 0 := rfl
  have h6 : (6 : Int32).toInt = 6 := rfl
  have hsk := sk_le (T := tx t) han
  unfold md_B_number
  refine ok_zc (uf_sign ht hl hn ha han hN) (fun o1 ho1 => ok_zc uf_digit (fun o2 ho2 => ?_))
  generalize sk (tx t) n a = s at ho1 hsk ⊢
  refine ok_eq (fun e => ok_some ?_) (fun e => ?_)
  · have hno : ¬ (s < n ∧ 48 ≤ tx t s ∧ tx t s ≤ 57) := by
      rintro ⟨q1, q2, q3⟩
      rcases ho1.2 with q | ⟨-, -, q⟩
      · omega
      · omega
    unfold nu nuf
    rw [if_neg hno]
    exact ⟨ho1.1, Or.inl ⟨rfl, rfl⟩⟩
  · have hyes : s < n ∧ 48 ≤ tx t s ∧ tx t s ≤ 57 := by
      rcases ho1.2 with q | ⟨q0, -, q⟩
      · omega
      · omega
    clear ho2 e
    refine ok_fx3 (fun (d v x : Int32) => ∃ (k b : Nat), k ≤ 6 ∧ d.toInt = (k : Int) ∧ x.toInt = (b : Int) ∧ b ≤ n ∧ nuf (tx t) n (7 - k) k b = nu (tx t) n s ∧ (k = 0 → b < n ∧ 48 ≤ tx t b ∧ tx t b ≤ 57) ∧ 0 ≤ v.toInt ∧ ((k = 0 ∧ v.toInt ≤ 0) ∨ (k = 1 ∧ v.toInt ≤ 9) ∨ (k = 2 ∧ v.toInt ≤ 99) ∨ (k = 3 ∧ v.toInt ≤ 999) ∨ (k = 4 ∧ v.toInt ≤ 9999) ∨ (k = 5 ∧ v.toInt ≤ 99999) ∨ (k = 6 ∧ v.toInt ≤ 999999))) (fun (d _ _ : Int32) => (7 - d.toInt).toNat) ?_ _ _ _ _ ⟨0, s, by omega, hz, ho1.1, hsk, rfl, fun _ => hyes, by omega, Or.inl ⟨rfl, by omega⟩⟩ (by omega)
    intro rec d v x hI ih
    obtain ⟨k, b, hk, hd, hx, hb, hs, h0, hv0, hv⟩ := hI
    rw [show 7 - k = (6 - k) + 1 from by omega] at hs
    unfold nuf at hs
    unfold md_B_number_F16
    refine ok_zc (uf_at ht hl hn hx) (fun o6 ho6 => ok_zc uf_digit (fun o7 ho7 => ok_eq (fun e1 => ok_some ?_) (fun e1 => ?_)))
    · have hno : ¬ (b < n ∧ 48 ≤ tx t b ∧ tx t b ≤ 57) := by
        rintro ⟨q1, q2, q3⟩
        rcases ho6 with q | ⟨-, -, q⟩
        · omega
        · omega
      rw [if_neg hno] at hs
      rw [← hs]
      refine ⟨hx, Or.inr ⟨hv0, ?_, ?_⟩⟩
      · show v.toInt ≤ 999999
        omega
      · show decide (0 < k) = true
        have : k ≠ 0 := fun z => hno (h0 z)
        exact decide_eq_true (by omega)
    · have hy : b < n ∧ 48 ≤ tx t b ∧ tx t b ≤ 57 := by
        rcases ho6 with q | ⟨q0, -, q⟩
        · omega
        · omega
      rw [if_pos hy] at hs
      clear ho6 ho7 e1
      refine ok_eq (fun e2 => ok_some ?_) (fun e2 => ?_)
      · rw [if_pos (by omega)] at hs
        rw [← hs]
        exact ⟨hx, Or.inl ⟨rfl, rfl⟩⟩
      · rw [if_neg (by omega)] at hs
        refine ok_zc (uf_at ht hl hn hx) (fun o8 ho8 => ok_zl ?_)
        have h8 : 48 ≤ o8.toInt ∧ o8.toInt ≤ 57 := by
          rcases ho8 with q | ⟨-, -, q⟩
          · omega
          · omega
        clear ho8 hyes ho1
        have hd1 : (d + 1).toInt = d.toInt + 1 := by
          clear hs ih h0
          first | omega | (simp only [i_add, i_sub, i_mul, l_add, l_sub, Int32.reduceToInt, Int64.reduceToInt, cl_n, true_or, or_true, true_and, and_true, and_self] at *; omega) | (simp only [i_add, i_sub, i_mul, l_add, l_sub, Int32.reduceToInt, Int64.reduceToInt, cl_n, true_or, or_true, true_and, and_true, and_self] at *; done)
        have hx1 : (x + (1 : Int32)).toInt = x.toInt + 1 := by
          clear hs ih h0 hv
          first | omega | (simp only [i_add, i_sub, i_mul, l_add, l_sub, Int32.reduceToInt, Int64.reduceToInt, cl_n, true_or, or_true, true_and, and_true, and_self] at *; omega) | (simp only [i_add, i_sub, i_mul, l_add, l_sub, Int32.reduceToInt, Int64.reduceToInt, cl_n, true_or, or_true, true_and, and_true, and_self] at *; done)
        have hv1 : ((((10 : Int32) * v) + o8) - (48 : Int32)).toInt = 10 * v.toInt + o8.toInt - 48 := by
          have hvv : v.toInt ≤ 999999 := by omega
          have h10 : (10 : Int32).toInt = 10 := rfl
          have h48 : (48 : Int32).toInt = 48 := rfl
          clear hs ih h0 hv hd hx hy hd1 hx1
          rw [i_sub, i_add, i_mul, h10, h48]
          omega
        refine ih _ _ _ ⟨k + 1, b + 1, by omega, by omega, by omega, by omega, ?_, fun z => by omega, by omega, by omega⟩ (by omega)
        rw [show 7 - (k + 1) = 6 - k from by omega]
        exact hs
theorem uf_named {N J : Nat} {jobs c : Int32} {names : Nat → Int32} {nm : Nat → Int} (hj : jobs.toInt = (J : Int)) (hJ : J ≤ 26) (hnm : ∀ j, 1 ≤ j → j ≤ J → (names j).toInt = nm j) (hN : 4000 ≤ N) : ok (md_B_named N jobs names c) (fun o => o.toInt = (tg nm J c.toInt : Int)) := by
  have hz : (0 : Int32).toInt = 0 := rfl
  have h1 : (1 : Int32).toInt = 1 := rfl
  unfold md_B_named
  refine ok_fx2 (fun (x y : Int32) => ∃ i : Nat, i ≤ J ∧ x.toInt = (i : Int) + 1 ∧ y.toInt = (tg nm i c.toInt : Int)) (fun (x _ : Int32) => (27 - x.toInt).toNat) ?_ _ _ _ ⟨0, by omega, h1, hz⟩ (by omega)
  intro rec x y hI ih
  obtain ⟨i, hi, hx, hy⟩ := hI
  unfold md_B_named_F4
  have ex : x.toInt.toNat = i + 1 := by omega
  simp only [cl_n, ex]
  refine ok_lt (fun e => ok_some ?_) (fun e => ok_in (by omega) ?_)
  · have : i = J := by omega
    rw [← this]; exact hy
  · have hx1 : (x + 1).toInt = x.toInt + 1 := by
      clear hy ih ex
      first | omega | (simp only [i_add, i_sub, i_mul, l_add, l_sub, Int32.reduceToInt, Int64.reduceToInt, cl_n, true_or, or_true, true_and, and_true, and_self] at *; omega) | (simp only [i_add, i_sub, i_mul, l_add, l_sub, Int32.reduceToInt, Int64.reduceToInt, cl_n, true_or, or_true, true_and, and_true, and_self] at *; done)
    have hq := hnm (i + 1) (by omega) (by omega)
    have et : tg nm (i + 1) c.toInt = if nm (i + 1) = c.toInt then i + 1 else tg nm i c.toInt := rfl
    refine ok_eq (fun e2 => ih _ _ ⟨i + 1, by omega, by omega, ?_⟩ (by omega)) (fun e2 => ih _ _ ⟨i + 1, by omega, by omega, ?_⟩ (by omega))
    · rw [et, if_pos (by omega)]; omega
    · rw [et, if_neg (by omega)]; exact hy
