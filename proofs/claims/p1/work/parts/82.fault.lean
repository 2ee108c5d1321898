-- 82.fault: the reference reads a job, and the whole text
theorem uf_reads {N n J s : Nat} {len x1 at0 : Int32} {t u names numbers many needs conds places : Nat → Int32} {nm : Nat → Int} {cn : Nat → Nat} {pl : Nat → Nat → Nat} (ht : tr n t u) (hl : len.toInt = (n : Int)) (hn : n ≤ 2000) (ha : at0.toInt = (s : Int)) (hs : s < n) (hss : sk (tx t) n s = s) (hj : x1.toInt = (J : Int)) (hJ : J ≤ 26) (hR : RW (tx t) J nm cn pl names numbers many needs places) (hcn : ∀ j, 1 ≤ j → j ≤ J → cn j ≤ 20) (hN : 4000 ≤ N) :
    ok (md_B_reads N len x1 at0 u names numbers many needs conds places) (fun o =>
      (¬ (97 ≤ tx t s ∧ tx t s ≤ 122 ∧ tg nm J (tx t s) = 0 ∧ J < 26) ∧ o.1.toInt = 0 ∧ o.2.2.1.toInt = (s : Int)) ∨
      ((97 ≤ tx t s ∧ tx t s ≤ 122 ∧ tg nm J (tx t s) = 0 ∧ J < 26) ∧ (o.1.toInt = 0 ∨ o.1.toInt = 1) ∧ (o.1.toInt = 1 ↔ (sj (tx t) n s).1 = true) ∧ o.2.2.1.toInt = ((sj (tx t) n s).2.1 : Int) ∧ (o.1.toInt = 1 → o.2.1.toInt = (J : Int) + 1 ∧ RW (tx t) (J + 1) (fun j => if j = J + 1 then tx t s else nm j) (fun j => if j = J + 1 then (sj (tx t) n s).2.2.1 else cn j) (fun j => if j = J + 1 then (sj (tx t) n s).2.2.2 else pl j) o.2.2.2.1 o.2.2.2.2.1 o.2.2.2.2.2.1 o.2.2.2.2.2.2.1 o.2.2.2.2.2.2.2.2))) := by
  have hz : (0 : Int32).toInt = 0 := rfl
  have h26 : (26 : Int32).toInt = 26 := rfl
  have h4z : (4 : Int32).toInt = 4 := rfl
  have hm1 : (-1 : Int32).toInt = -1 := rfl
  have h01 : ¬ ((0 : Int32).toInt = 1) := by decide
  unfold md_B_reads
  refine ok_zc (uf_sign ht hl hn ha (by omega) hN) (fun o1 ho1 => ok_zc uf_name (fun o2 ho2 => ?_))
  rw [hss] at ho1
  have ho1a := ho1.1
  refine ok_eq (fun e1 => ok_some (Or.inl ⟨fun q => ?_, rfl, ho1a⟩)) (fun e1 => ?_)
  · rcases ho1.2 with z | ⟨-, -, z⟩
    · omega
    · omega
  have hyv : 97 ≤ tx t s ∧ tx t s ≤ 122 ∧ o1.1.toInt = tx t s := by
    rcases ho1.2 with z | ⟨-, -, z⟩
    · omega
    · omega
  clear ho1 ho2 e1
  refine ok_zc (uf_named hj hJ hR.1 hN) (fun o3 ho3 => ?_)
  rw [hyv.2.2] at ho3
  refine ok_eq (fun e2 => ok_eq (fun e3 => ok_some (Or.inl ⟨fun q => by omega, rfl, ho1a⟩)) (fun e3 => ?_)) (fun e2 => ok_some (Or.inl ⟨fun q => by omega, rfl, ho1a⟩))
  have hJ2 : J < 26 := by omega
  have hv : 97 ≤ tx t s ∧ tx t s ≤ 122 ∧ tg nm J (tx t s) = 0 ∧ J < 26 := ⟨hyv.1, hyv.2.1, by omega, hJ2⟩
  have hjb : (x1 + (1 : Int32)).toInt = (J : Int) + 1 := by
    clear hR ht ho3 e2 hv hyv
    first | omega | (simp only [i_add, i_sub, i_mul, l_add, l_sub, Int32.reduceToInt, Int64.reduceToInt, cl_n, true_or, or_true, true_and, and_true, and_self] at *; omega) | (simp only [i_add, i_sub, i_mul, l_add, l_sub, Int32.reduceToInt, Int64.reduceToInt, cl_n, true_or, or_true, true_and, and_true, and_self] at *; done)
  have ejb : (x1 + (1 : Int32)).toInt.toNat = J + 1 := by omega
  simp only [cl_n, ejb]
  refine ok_in (by omega) (ok_zl (ok_in (by omega) (ok_zl ?_)))
  have hs1 : (o1.2 + (1 : Int32)).toInt = ((s + 1 : Nat) : Int) := by
    generalize o1.2 = y at *
    clear hR ht ho3 e2 hv hyv
    first | omega | (simp only [i_add, i_sub, i_mul, l_add, l_sub, Int32.reduceToInt, Int64.reduceToInt, cl_n, true_or, or_true, true_and, and_true, and_self] at *; omega) | (simp only [i_add, i_sub, i_mul, l_add, l_sub, Int32.reduceToInt, Int64.reduceToInt, cl_n, true_or, or_true, true_and, and_true, and_self] at *; done)
  generalize h4 : s4 (tx t) n 4 (s + 1) = fin
  have hsj : sj (tx t) n s = if fin.1 = true then sn (tx t) n 21 0 fin.2 (fun _ => 0) else (false, fin.2, 0, fun _ => 0) := by
    unfold sj
    rw [h4]
  generalize sj (tx t) n s = r at hsj ⊢
  refine ok_fx3 (fun (x y : Int32) (f8 : Nat → Int32) => ∃ (i b : Nat), i ≤ 4 ∧ x.toInt = (i : Int) ∧ y.toInt = (b : Int) ∧ b ≤ n ∧ s4 (tx t) n (4 - i) b = fin ∧ ∀ q, q < 4 * J + i → 0 ≤ (f8 q).toInt ∧ (f8 q).toInt ≤ 999999) (fun (x _ : Int32) (_ : Nat → Int32) => (4 - x.toInt).toNat) ?_ _ _ _ _ ⟨0, s + 1, by omega, hz, hs1, by omega, h4, hR.2.1⟩ (by omega)
  intro rec x y f8 hI ih
  obtain ⟨i, b, hi, hx, hy, hb, h5, h8⟩ := hI
  unfold md_B_reads_F73
  refine ok_le (fun e => ?_) (fun e => ?_)
  · have e4 : i = 4 := by omega
    subst e4
    have hf : fin = (true, b) := h5.symm
    rw [hf, if_pos rfl] at hsj
    refine ok_mono (uf_needs ht hl hn hy hb hj hJ2 (by rw [pk_us]; exact hz) hN) (fun o ho => Or.inr ⟨hv, ho.2.2.2.1, ?_, ?_, fun _ => ⟨ho.1, ?_⟩⟩)
    · rw [hsj]; exact ho.2.2.2.2.1
    · rw [hsj]; exact ho.2.2.2.2.2.1
    · obtain ⟨-, g1, g2, -, -, -, g3, g4, g5, g6⟩ := ho
      rw [g1, g2]
      refine ⟨fun j a1 a2 => ?_, fun q hq => h8 q (by omega), fun j a1 a2 => ?_⟩
      · dsimp only
        by_cases e9 : j = J + 1
        · rw [if_pos e9, e9, pk_us]; exact hyv.2.2
        · rw [if_neg e9, pk_un e9]; exact hR.1 j a1 (by omega)
      · dsimp only
        by_cases e9 : j = J + 1
        · simp only [if_pos e9]
          rw [e9, hsj]
          exact ⟨g3, g6⟩
        · simp only [if_neg e9]
          rw [g4 j e9, pk_un e9]
          have h9 := hR.2.2 j a1 (by omega)
          refine ⟨h9.1, fun k hk => ?_⟩
          by_cases e8 : k < 20
          · rw [(g5 _ (by omega)).1, (g5 _ (by omega)).2]
            exact h9.2 k hk
          · exact absurd hk (fun z => e8 (by have := hcn j a1 (by omega); omega))
  · rw [show 4 - i = (3 - i) + 1 from by omega] at h5
    unfold s4 at h5
    have hsk := sk_le (T := tx t) hb
    have hix : ((((4 : Int32) * (x1 + (1 : Int32))) + x) - (4 : Int32)).toInt = 4 * (J : Int) + (i : Int) := by
      clear hR ht ho3 e2 hv hyv h5 h8 ih hsj
      first | omega | (simp only [i_add, i_sub, i_mul, l_add, l_sub, Int32.reduceToInt, Int64.reduceToInt, cl_n, true_or, or_true, true_and, and_true, and_self] at *; omega) | (simp only [i_add, i_sub, i_mul, l_add, l_sub, Int32.reduceToInt, Int64.reduceToInt, cl_n, true_or, or_true, true_and, and_true, and_self] at *; done)
    have eix : ((((4 : Int32) * (x1 + (1 : Int32))) + x) - (4 : Int32)).toInt.toNat = 4 * J + i := by omega
    simp only [cl_n, eix]
    refine ok_zc (uf_number ht hl hn hy hb hN) (fun o9 ho9 => ok_in (by omega) (ok_zl (ok_in (by omega) ?_)))
    simp only [pk_us]
    refine ok_eq (fun e1 => ok_some (Or.inr ⟨hv, Or.inl rfl, ?_, ?_, fun q => absurd q h01⟩)) (fun e1 => ?_)
    · have hno : (nu (tx t) n (sk (tx t) n b)).1 = false := by
        rcases ho9.2 with q | q
        · exact q.2
        · omega
      rw [hno] at h5
      have hf : fin = (false, (nu (tx t) n (sk (tx t) n b)).2) := h5.symm
      rw [hf] at hsj
      have hsk2 : r = (false, (nu (tx t) n (sk (tx t) n b)).2, 0, fun _ => 0) := hsj
      rw [hsk2]
      exact ⟨fun q => absurd q h01, fun q => absurd q Bool.false_ne_true⟩
    · have hno : (nu (tx t) n (sk (tx t) n b)).1 = false := by
        rcases ho9.2 with q | q
        · exact q.2
        · omega
      rw [hno] at h5
      have hf : fin = (false, (nu (tx t) n (sk (tx t) n b)).2) := h5.symm
      rw [hf] at hsj
      have hsk2 : r = (false, (nu (tx t) n (sk (tx t) n b)).2, 0, fun _ => 0) := hsj
      rw [hsk2]
      exact ho9.1
    · have hyes : 0 ≤ o9.1.toInt ∧ o9.1.toInt ≤ 999999 ∧ (nu (tx t) n (sk (tx t) n b)).1 = true := by
        rcases ho9.2 with q | q
        · omega
        · exact q
      rw [if_pos hyes.2.2] at h5
      have hx1 : (x + 1).toInt = x.toInt + 1 := by
        clear hR ht ho3 e2 hv hyv h5 h8 ih hsj ho9 hyes hix eix
        first | omega | (simp only [i_add, i_sub, i_mul, l_add, l_sub, Int32.reduceToInt, Int64.reduceToInt, cl_n, true_or, or_true, true_and, and_true, and_self] at *; omega) | (simp only [i_add, i_sub, i_mul, l_add, l_sub, Int32.reduceToInt, Int64.reduceToInt, cl_n, true_or, or_true, true_and, and_true, and_self] at *; done)
      have hnu := nu_le (T := tx t) hsk
      refine ih _ _ _ ⟨i + 1, _, by omega, by omega, ho9.1, hnu.2, by rw [show 4 - (i + 1) = 3 - i from by omega]; exact h5, fun q hq => ?_⟩ (by omega)
      by_cases e9 : q = 4 * J + i
      · rw [e9, pk_us]; exact ⟨hyes.1, hyes.2.1⟩
      · rw [pk_un e9]; exact h8 q (by omega)
