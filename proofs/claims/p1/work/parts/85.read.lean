-- 85.read: read() in class and reference
theorem fm_one {T : Nat → Int} {J : Nat} {nm : Nat → Int} {cn : Nat → Nat} {pl : Nat → Nat → Nat} {i j k l : Nat} (h1 : 1 ≤ i) (h2 : i ≤ J) (h3 : k < cn i) (h4 : tg nm J (T (pl i k)) = 0) (h5 : FM T J nm cn pl (bs cn (i - 1) + k)) (g1 : 1 ≤ j) (g2 : j ≤ J) (g3 : l < cn j) (g4 : tg nm J (T (pl j l)) = 0) (g5 : FM T J nm cn pl (bs cn (j - 1) + l)) : i = j ∧ k = l := by
  refine bs_one h1 g1 h3 g3 ?_
  rcases Nat.lt_trichotomy (bs cn (i - 1) + k) (bs cn (j - 1) + l) with q | q | q
  · exact absurd h4 (g5 i k h1 h2 h3 q)
  · exact q
  · exact absurd g4 (h5 j l g1 g2 g3 q)
theorem fm_all {T : Nat → Int} {J : Nat} {nm : Nat → Int} {cn : Nat → Nat} {pl : Nat → Nat → Nat} {i k : Nat} (h1 : 1 ≤ i) (h2 : i ≤ J) (h3 : k < cn i) (h4 : tg nm J (T (pl i k)) = 0) (h : FM T J nm cn pl (bs cn J)) : False := by
  have b1 := bs_step (cn := cn) h1
  have b2 := bs_mono (cn := cn) J h2
  exact h i k h1 h2 h3 (by omega) h4
theorem po_0 {T : Nat → Int} {n : Nat} {fin : Bool × Nat × Nat × (Nat → Int) × (Nat → Nat) × (Nat → Nat → Nat)} {r p jobs bad jobs2 : Int32} {nc al numbers many needs : Nat → Int32} {nd : Nat → Nat → Int32} (h : PO T n fin r p jobs nc nd al) (g : PB T n fin bad jobs2 numbers many needs) (hr : r.toInt = 0) : bad.toInt = p.toInt ∧ bad.toInt ≠ -1 := by
  rcases h.2 with ⟨-, a1, a2⟩ | ⟨-, a1, j, k, a2, a3, a4, a5, a6, a7⟩ | ⟨a1, -⟩
  · rcases g with ⟨b1, b2⟩ | ⟨b1, -⟩ | ⟨b1, -⟩
    · omega
    · rw [a1] at b1; cases b1
    · rw [a1] at b1; cases b1
  · rcases g with ⟨b1, b2⟩ | ⟨b1, j', k', b2, b3, b4, b5, b6, b7⟩ | ⟨b1, b2, b3, -⟩
    · rw [a1] at b1; cases b1
    · obtain ⟨rfl, rfl⟩ := fm_one a2 a3 a4 a5 a7 b2 b3 b4 b5 b7
      omega
    · exact absurd b3 (fun z => fm_all a2 a3 a4 a5 z)
  · omega
theorem po_1 {T : Nat → Int} {n : Nat} {fin : Bool × Nat × Nat × (Nat → Int) × (Nat → Nat) × (Nat → Nat → Nat)} {r p jobs bad jobs2 : Int32} {nc al numbers many needs : Nat → Int32} {nd : Nat → Nat → Int32} (h : PO T n fin r p jobs nc nd al) (g : PB T n fin bad jobs2 numbers many needs) (hr : ¬ r.toInt = 0) : bad.toInt = -1 ∧ p.toInt = (n : Int) ∧ ∃ J : Nat, J ≤ 26 ∧ jobs.toInt = (J : Int) ∧ jobs2.toInt = (J : Int) ∧ rg nc 27 0 20 ∧ nt J nc nd ∧ CL J nc nd al ∧ ag J nc nd many needs ∧ ∀ i, i < 4 * J → 0 ≤ (numbers i).toInt ∧ (numbers i).toInt ≤ 999999 := by
  rcases h.2 with ⟨a1, -⟩ | ⟨a1, -⟩ | ⟨-, a1, a2, a3, a4, a5, a6, a7, a8, a9⟩
  · exact absurd a1 hr
  · exact absurd a1 hr
  · rcases g with ⟨b1, b2⟩ | ⟨b1, j', k', b2, b3, b4, b5, b6, b7⟩ | ⟨b1, b2, b3, b4, b5, b6, b7⟩
    · rw [a1] at b1; cases b1
    · exact absurd a4 (fun z => fm_all b2 b3 b4 b5 z)
    · refine ⟨b2, a2, fin.2.2.1, a5.1, a3, b5, a6, a7, a8, fun j j1 j2 => ?_, b6⟩
      have c1 := a9 j j1 j2
      have c2 := b7 j j1 j2
      refine ⟨Int32.toInt_inj.mp (by omega), fun k hk => Int32.toInt_inj.mp ?_⟩
      rw [c1.2 k (by omega), c2.2 k (by omega)]
theorem rb_copy {N J : Nat} {needs conds states names cals prios starts est many kept : Nat → Int32} {sums : Nat → Int64} {o1 : Int32 × Int32 × Int32 × (Nat → Int32) × (Nat → Int32) × (Nat → Int32) × (Nat → Int32) × (Nat → Int32) × (Nat → Int32)} {o2 : Int32 × Int32 × (Nat → Int32) × (Nat → Int32) × (Nat → Int32) × (Nat → Int32)} (hj : o1.2.1.toInt = (J : Int)) (hJ : J ≤ 26) (hnum : ∀ i, i < 4 * J → 0 ≤ (o1.2.2.2.2.1 i).toInt ∧ (o1.2.2.2.2.1 i).toInt ≤ 999999) (hest : rg est 27 0 999999) (hN : 4000 ≤ N) :
    ok (fx9 (md_B_read_F50 needs conds states N o1 o2) N (1 : Int32) names cals prios starts est many sums kept) (fun o => o.1 = o1.2.1 ∧ (o.2.2.1).toInt = 0 ∧ o.2.2.2.1 = o1.2.1 ∧ (o.2.2.2.2.2.2.1).toInt = 0 ∧ o.2.2.2.2.2.2.2.1 = o2.2.1 ∧ o.2.2.2.2.2.2.2.2.2.2.2.2.2.2.2.2.2.2.2.2.2.2.2.2.2.2.1 = o2.2.2.1 ∧ rg (o.2.2.2.2.2.2.2.2.2.2.2.2.2.1) 27 0 999999 ∧ (∀ j, 1 ≤ j → j ≤ J → o.2.2.2.2.2.2.2.2.2.2.2.2.2.2.1 j = o1.2.2.2.2.2.1 j) ∧ ∀ q, q < 540 → o.2.2.2.2.2.2.2.2.2.2.2.2.2.2.2.2.2.2.1 q = o1.2.2.2.2.2.2.1 q) := by
  have hz : (0 : Int32).toInt = 0 := rfl
  have h1 : (1 : Int32).toInt = 1 := rfl
  have h26 : (26 : Int32).toInt = 26 := rfl
  have h540 : (540 : Int32).toInt = 540 := rfl
  refine ok_fx9 (fun (x : Int32) (_ _ _ _ e m : Nat → Int32) (_ : Nat → Int64) (_ : Nat → Int32) => ∃ j : Nat, 1 ≤ j ∧ j ≤ J + 1 ∧ x.toInt = (j : Int) ∧ rg e 27 0 999999 ∧ ∀ i, 1 ≤ i → i < j → m i = o1.2.2.2.2.2.1 i) (fun (x : Int32) (_ _ _ _ _ _ : Nat → Int32) (_ : Nat → Int64) (_ : Nat → Int32) => (27 - x.toInt).toNat) ?_ _ _ _ _ _ _ _ _ _ _ ⟨1, by omega, by omega, h1, hest, fun i a1 a2 => by omega⟩ (by omega)
  intro rec x f4 f5 f6 f7 f8 f9 f10 f11 hI ih
  obtain ⟨j, j1, j2, hx, he, hm⟩ := hI
  unfold md_B_read_F50
  refine ok_lt (fun e => ?_) (fun e => ?_)
  · have ej : j = J + 1 := by omega
    refine ok_fx3 (fun (x : Int32) (f _ : Nat → Int32) => ∃ k : Nat, k ≤ 540 ∧ x.toInt = (k : Int) ∧ ∀ q, q < k → f q = o1.2.2.2.2.2.2.1 q) (fun (x : Int32) (_ _ : Nat → Int32) => (540 - x.toInt).toNat) ?_ _ _ _ _ ⟨0, by omega, hz, fun q hq => absurd hq (Nat.not_lt_zero _)⟩ (by omega)
    intro rec2 y f13 f14 hI2 ih2
    obtain ⟨k, hk, hy, hq⟩ := hI2
    unfold md_B_read_F168
    have ey : y.toInt.toNat = k := by omega
    simp only [cl_n, ey]
    refine ok_le (fun e2 => ?_) (fun e2 => ok_in (by omega) (ok_in (by omega) (ok_zl (ok_in (by omega) (ok_in (by omega) (ok_zl ?_))))))
    · have ek : k = 540 := by omega
      refine ok_fx2 (fun (x : Int32) (_ : Nat → Int32) => 0 ≤ x.toInt ∧ x.toInt ≤ 27) (fun (x : Int32) (_ : Nat → Int32) => (27 - x.toInt).toNat) ?_ _ _ _ (by omega) (by omega)
      intro rec3 z f16 hz9 ih3
      unfold md_B_read_F207
      refine ok_lt (fun e3 => ok_some ⟨rfl, rfl, rfl, rfl, rfl, rfl, he, fun i a1 a2 => hm i a1 (by omega), fun q a1 => hq q (by omega)⟩) (fun e3 => ok_in (by omega) (ok_zl (ih3 _ _ ?_ ?_)))
      · have : (z + 1).toInt = z.toInt + 1 := by
          clear hm he hq ih ih2 ih3 hnum hest
          first | omega | (simp only [i_add, i_sub, i_mul, l_add, l_sub, Int32.reduceToInt, Int64.reduceToInt, cl_n, true_or, or_true, true_and, and_true, and_self] at *; omega) | (simp only [i_add, i_sub, i_mul, l_add, l_sub, Int32.reduceToInt, Int64.reduceToInt, cl_n, true_or, or_true, true_and, and_true, and_self] at *; done)
        omega
      · have : (z + 1).toInt = z.toInt + 1 := by
          clear hm he hq ih ih2 ih3 hnum hest
          first | omega | (simp only [i_add, i_sub, i_mul, l_add, l_sub, Int32.reduceToInt, Int64.reduceToInt, cl_n, true_or, or_true, true_and, and_true, and_self] at *; omega) | (simp only [i_add, i_sub, i_mul, l_add, l_sub, Int32.reduceToInt, Int64.reduceToInt, cl_n, true_or, or_true, true_and, and_true, and_self] at *; done)
        omega
    · have hy1 : (y + 1).toInt = y.toInt + 1 := by
        clear hm he hq ih ih2 hnum hest
        first | omega | (simp only [i_add, i_sub, i_mul, l_add, l_sub, Int32.reduceToInt, Int64.reduceToInt, cl_n, true_or, or_true, true_and, and_true, and_self] at *; omega) | (simp only [i_add, i_sub, i_mul, l_add, l_sub, Int32.reduceToInt, Int64.reduceToInt, cl_n, true_or, or_true, true_and, and_true, and_self] at *; done)
      refine ih2 _ _ _ ⟨k + 1, by omega, by omega, fun q a1 => ?_⟩ (by omega)
      by_cases e9 : q = k
      · rw [e9, pk_us]
      · rw [pk_un e9]; exact hq q (by omega)
  · have ex : x.toInt.toNat = j := by omega
    have h4 : ((4 : Int32) * x - (4 : Int32)).toInt = 4 * (j : Int) - 4 := by
      clear hm he ih hnum hest
      first | omega | (simp only [i_add, i_sub, i_mul, l_add, l_sub, Int32.reduceToInt, Int64.reduceToInt, cl_n, true_or, or_true, true_and, and_true, and_self] at *; omega) | (simp only [i_add, i_sub, i_mul, l_add, l_sub, Int32.reduceToInt, Int64.reduceToInt, cl_n, true_or, or_true, true_and, and_true, and_self] at *; done)
    have h3 : ((4 : Int32) * x - (3 : Int32)).toInt = 4 * (j : Int) - 3 := by
      clear hm he ih hnum hest h4
      first | omega | (simp only [i_add, i_sub, i_mul, l_add, l_sub, Int32.reduceToInt, Int64.reduceToInt, cl_n, true_or, or_true, true_and, and_true, and_self] at *; omega) | (simp only [i_add, i_sub, i_mul, l_add, l_sub, Int32.reduceToInt, Int64.reduceToInt, cl_n, true_or, or_true, true_and, and_true, and_self] at *; done)
    have h2 : ((4 : Int32) * x - (2 : Int32)).toInt = 4 * (j : Int) - 2 := by
      clear hm he ih hnum hest h4 h3
      first | omega | (simp only [i_add, i_sub, i_mul, l_add, l_sub, Int32.reduceToInt, Int64.reduceToInt, cl_n, true_or, or_true, true_and, and_true, and_self] at *; omega) | (simp only [i_add, i_sub, i_mul, l_add, l_sub, Int32.reduceToInt, Int64.reduceToInt, cl_n, true_or, or_true, true_and, and_true, and_self] at *; done)
    have h11 : ((4 : Int32) * x - (1 : Int32)).toInt = 4 * (j : Int) - 1 := by
      clear hm he ih hnum hest h4 h3 h2
      first | omega | (simp only [i_add, i_sub, i_mul, l_add, l_sub, Int32.reduceToInt, Int64.reduceToInt, cl_n, true_or, or_true, true_and, and_true, and_self] at *; omega) | (simp only [i_add, i_sub, i_mul, l_add, l_sub, Int32.reduceToInt, Int64.reduceToInt, cl_n, true_or, or_true, true_and, and_true, and_self] at *; done)
    have hx1 : (x + 1).toInt = x.toInt + 1 := by
      clear hm he ih hnum hest h4 h3 h2 h11
      first | omega | (simp only [i_add, i_sub, i_mul, l_add, l_sub, Int32.reduceToInt, Int64.reduceToInt, cl_n, true_or, or_true, true_and, and_true, and_self] at *; omega) | (simp only [i_add, i_sub, i_mul, l_add, l_sub, Int32.reduceToInt, Int64.reduceToInt, cl_n, true_or, or_true, true_and, and_true, and_self] at *; done)
    simp only [cl_n, ex]
    refine ok_in (by omega) (ok_in (by omega) (ok_zl (ok_in (by omega) (ok_in (by omega) (ok_zl (ok_in (by omega) (ok_in (by omega) (ok_zl (ok_in (by omega) (ok_in (by omega) (ok_zl (ok_in (by omega) (ok_in (by omega) (ok_zl (ok_in (by omega) (ok_in (by omega) (ok_zl (ok_in (by omega) (ok_zl (ok_in (by omega) (ok_zl (ih _ _ _ _ _ _ _ _ _ ⟨j + 1, by omega, by omega, by omega, rg_upd he (hnum _ (by omega)), fun i a1 a2 => ?_⟩ (by omega)))))))))))))))))))))))
    by_cases e9 : i = j
    · rw [e9, pk_us]
    · rw [pk_un e9]; exact hm i a1 (by omega)
