-- 88.late: late() of the class; a sign in both
theorem sf_usual {N : Nat} {a b : Int32} {l : Nat → Int64} {f : Nat → Int32} (ha : 0 ≤ a.toInt ∧ a.toInt ≤ 26) : ok (md_Kep_usualTime N l f a b) (fun _ => True) := by
  have hz : (0 : Int32).toInt = 0 := rfl
  have hl : (0 : Int64).toInt = 0 := rfl
  unfold md_Kep_usualTime
  refine ok_in (by omega) (ok_le (fun _ => ok_some trivial) (fun e => ?_))
  have hne : ((f a.toNatClampNeg).toInt64).toInt ≠ (0 : Int64).toInt := by
    rw [i2l]; omega
  exact ok_in (by omega) (ok_in (by omega) (ok_neL hne (ok_some trivial)))
theorem sf_isLate {N : Nat} {a : Int32} {t : Int64} {s1 s2 kc : Nat → Int32} {ks : Nat → Int64} {g : Nat → Nat → Int32} (ha : 0 ≤ a.toInt ∧ a.toInt ≤ 26) : ok (md_A_isLate N s1 s2 ks kc g a t) (fun _ => True) := by
  have h3 : (3 : Int32).toInt = 3 := rfl
  have h2 : (2 : Int32).toInt = 2 := rfl
  have hk : ∀ x1 : Int64, ok (if sg_in a 27 = true then (if sg_in (3 : Int32) 4 = true then (zc (md_Kep_usualTime N ks kc a (g a.toNatClampNeg (3 : Int32).toNatClampNeg)) (fun o3 => (if (lg_cmp t (x1 + o3)) ≤ 0 then (some (0 : Int32)) else (some (1 : Int32))))) else none) else none) (fun _ => True) :=
    fun x1 => ok_in (by omega) (ok_in (by omega) (ok_zc (sf_usual ha) (fun o _ => ok_le (fun _ => ok_some trivial) (fun _ => ok_some trivial))))
  have hm : ok (if (s1 a.toNatClampNeg) = (2 : Int32) then (if sg_in a 27 = true then ((fun (x1 : Int64) => (if sg_in a 27 = true then (if sg_in (3 : Int32) 4 = true then (zc (md_Kep_usualTime N ks kc a (g a.toNatClampNeg (3 : Int32).toNatClampNeg)) (fun o3 => (if (lg_cmp t (x1 + o3)) ≤ 0 then (some (0 : Int32)) else (some (1 : Int32))))) else none) else none)) ((s2 a.toNatClampNeg).toInt64)) else none) else (if sg_in a 27 = true then (if sg_in (2 : Int32) 4 = true then ((fun (x1 : Int64) => (if sg_in a 27 = true then (if sg_in (3 : Int32) 4 = true then (zc (md_Kep_usualTime N ks kc a (g a.toNatClampNeg (3 : Int32).toNatClampNeg)) (fun o3 => (if (lg_cmp t (x1 + o3)) ≤ 0 then (some (0 : Int32)) else (some (1 : Int32))))) else none) else none)) ((g a.toNatClampNeg (2 : Int32).toNatClampNeg).toInt64)) else none) else none)) (fun _ => True) :=
    ok_eq (fun _ => ok_in (by omega) (hk _)) (fun _ => ok_in (by omega) (ok_in (by omega) (hk _)))
  unfold md_A_isLate
  exact ok_in (by omega) (ok_zl (ok_eq (fun _ => hm) (fun _ => ok_eq (fun _ => hm) (fun _ => ok_some trivial))))
theorem ca_late {N : Nat} {jobs b : Int32} {t : Int64} {s1 s2 kc : Nat → Int32} {ks : Nat → Int64} {g : Nat → Nat → Int32} (hj : 0 ≤ jobs.toInt ∧ jobs.toInt ≤ 26) (hN : 4000 ≤ N) : ok (md_A_late N s1 s2 ks kc jobs g t b) (fun _ => True) := by
  have h1 : (1 : Int32).toInt = 1 := rfl
  unfold md_A_late
  refine ok_fx2 (fun (x _ : Int32) => 1 ≤ x.toInt ∧ x.toInt ≤ 27) (fun (x _ : Int32) => (27 - x.toInt).toNat) ?_ _ _ _ (by omega) (by omega)
  intro rec x y hI ih
  unfold md_A_late_F6
  refine ok_lt (fun _ => ok_some trivial) (fun e => ?_)
  have hx1 : (x + 1).toInt = x.toInt + 1 := by
    clear ih
    first | omega | (simp only [i_add, i_sub, i_mul, l_add, l_sub, Int32.reduceToInt, Int64.reduceToInt, cl_n, true_or, or_true, true_and, and_true, and_self] at *; omega) | (simp only [i_add, i_sub, i_mul, l_add, l_sub, Int32.reduceToInt, Int64.reduceToInt, cl_n, true_or, or_true, true_and, and_true, and_self] at *; done)
  exact ok_zc (sf_isLate (by omega)) (fun o _ => ok_eq (fun _ => ih _ _ (by omega) (by omega)) (fun _ => ok_eq (fun _ => ok_some trivial) (fun _ => ih _ _ (by omega) (by omega))))
theorem sg_both {N n : Nat} {lenA lenB cd a : Int32} {tA tB : Nat → Int32} (hlA : lenA.toInt = (n : Int)) (hlB : lenB.toInt = (n : Int)) (hn : n ≤ 2000) (ht : tr n tA tB) :
    ok (md_A_sign N lenA tA a) (fun oA => ok (md_B_sign N cd lenB tB a) (fun oB => ∃ m : Nat, m ≤ 2000 ∧ oA.1.toInt = (m : Int) ∧ oB.2.1.toInt = (m : Int) ∧ tr m oA.2 oB.2.2)) := by
  have hz : (0 : Int32).toInt = 0 := rfl
  have h2 : (2000 : Int32).toInt = 2000 := rfl
  unfold md_A_sign md_Tex_append
  have eA : lenA.toInt.toNat = n := by omega
  have eB : lenB.toInt.toNat = n := by omega
  simp only [cl_n, eA]
  by_cases hf : n = 2000
  · refine ok_zc (Q := fun o => o = (lenA, tA)) (ok_le (fun _ => ok_some rfl) (fun e => by omega)) (fun o ho => ok_some ?_)
    subst ho
    unfold md_B_sign
    exact ok_eq (fun _ => ok_some ⟨n, hn, hlA, hlB, ht⟩) (fun e => by omega)
  · have hA1 : (lenA + (1 : Int32)).toInt = ((n + 1 : Nat) : Int) := by
      clear ht
      first | omega | (simp only [i_add, i_sub, i_mul, l_add, l_sub, Int32.reduceToInt, Int64.reduceToInt, cl_n, true_or, or_true, true_and, and_true, and_self] at *; omega) | (simp only [i_add, i_sub, i_mul, l_add, l_sub, Int32.reduceToInt, Int64.reduceToInt, cl_n, true_or, or_true, true_and, and_true, and_self] at *; done)
    have hB1 : (lenB + (1 : Int32)).toInt = ((n + 1 : Nat) : Int) := by
      clear ht hA1
      first | omega | (simp only [i_add, i_sub, i_mul, l_add, l_sub, Int32.reduceToInt, Int64.reduceToInt, cl_n, true_or, or_true, true_and, and_true, and_self] at *; omega) | (simp only [i_add, i_sub, i_mul, l_add, l_sub, Int32.reduceToInt, Int64.reduceToInt, cl_n, true_or, or_true, true_and, and_true, and_self] at *; done)
    refine ok_zc (Q := fun o => o = (lenA + (1 : Int32), upd tA n a)) (ok_le (fun e => by omega) (fun e => ok_in (by omega) (ok_zl (ok_some rfl)))) (fun o ho => ok_some ?_)
    subst ho
    unfold md_B_sign
    simp only [cl_n, eB]
    have hg : ∀ v : Int32, ((a.toInt < 0 ∧ v.toInt = 0) ∨ (0 ≤ a.toInt ∧ v.toInt = a.toInt)) → tr (n + 1) (upd tA n a) (upd tB n v) := by
      intro v hv i hi
      by_cases e : i = n
      · rw [e, pk_us, pk_us]; exact hv
      · rw [pk_un e, pk_un e]; exact ht i (by omega)
    exact ok_eq (fun e => by omega) (fun _ => ok_le (fun e => ok_in (by omega) (ok_zl (ok_some ⟨n + 1, by omega, hA1, hB1, hg _ (Or.inr ⟨by omega, rfl⟩)⟩))) (fun e => ok_in (by omega) (ok_zl (ok_some ⟨n + 1, by omega, hA1, hB1, hg _ (Or.inl ⟨by omega, rfl⟩)⟩))))
