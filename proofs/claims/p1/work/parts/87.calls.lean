-- 87.calls: the class's other calls are safe
theorem sf_isDay {N : Nat} {a : Int64} : ok (md_A_isDay N a) (fun o => (o.toInt = 0 ∧ ¬ (0 ≤ a.toInt ∧ a.toInt ≤ 1000000)) ∨ (o.toInt = 1 ∧ 0 ≤ a.toInt ∧ a.toInt ≤ 1000000)) := by
  have l1 := lc_f a 0
  have l2 := lc_f a 1000000
  have h0 : (0 : Int64).toInt = 0 := rfl
  have h1 : (1000000 : Int64).toInt = 1000000 := rfl
  have hz : (0 : Int32).toInt = 0 := rfl
  unfold md_A_isDay
  exact ok_lt (fun e => ok_some (Or.inl ⟨rfl, fun q => by omega⟩)) (fun e => ok_lt (fun e2 => ok_some (Or.inl ⟨rfl, fun q => by omega⟩)) (fun e2 => ok_some (Or.inr ⟨rfl, by omega, by omega⟩)))
theorem ca_calendar {N : Nat} {made a b : Int32} {f1 f2 : Nat → Int32} (hm : 1 ≤ made.toInt ∧ made.toInt ≤ 20) : ok (md_A_calendar N made f1 f2 a b) (fun o => 1 ≤ o.2.1.toInt ∧ o.2.1.toInt ≤ 20) := by
  unfold md_A_calendar
  exact ok_zc (sf_make hm) (fun o h => ok_some h)
theorem ca_holiday {N : Nat} {hc : Int32} {f : Nat → Int32} {a : Int64} (h : 0 ≤ hc.toInt ∧ hc.toInt ≤ 100) (hN : 4000 ≤ N) : ok (md_A_holiday N hc f a) (fun o => 0 ≤ o.2.1.toInt ∧ o.2.1.toInt ≤ 100) := by
  unfold md_A_holiday
  exact ok_zc sf_isDay (fun o1 h1 => ok_eq (fun _ => ok_some h) (fun _ => ok_zc (sf_turnHoliday h hN) (fun o2 h2 => ok_some h2)))
theorem ca_next {N : Nat} {made hc x : Int32} {f1 f2 f3 : Nat → Int32} {a : Int64} (hm : 1 ≤ made.toInt ∧ made.toInt ≤ 20) (h : 0 ≤ hc.toInt ∧ hc.toInt ≤ 100) (hN : 4000 ≤ N) : ok (md_A_next N made hc f1 f2 f3 x a) (fun _ => True) := by
  have hz : (0 : Int32).toInt = 0 := rfl
  unfold md_A_next
  refine ok_zc sf_isDay (fun o1 h1 => ok_eq (fun _ => ok_some trivial) (fun e => ?_))
  have ha : 0 ≤ a.toInt ∧ a.toInt ≤ 1000000 := by omega
  have e32 := l2i (a := a) (by omega)
  exact ok_zc (sf_firstDay hm h (by omega) hN) (fun o2 h2 => ok_some trivial)
theorem ca_plan {N : Nat} {made hc st t jobs : Int32} {f1 f2 f3 s1 s2 s3 s4 nc : Nat → Int32} {g1 nd g3 : Nat → Nat → Int32} {a : Int64} (hm : 1 ≤ made.toInt ∧ made.toInt ≤ 20) (h : 0 ≤ hc.toInt ∧ hc.toInt ≤ 100) (hs : 0 ≤ st.toInt ∧ st.toInt ≤ 538) (hj : 0 ≤ jobs.toInt ∧ jobs.toInt ≤ 26) (hnc : rg nc 27 0 20) (hnd : gg nd 27 20 0 26) (hN : 4000 ≤ N) : ok (md_A_plan N made hc f1 f2 f3 st t s1 s2 s3 s4 jobs g1 nc nd g3 a) (fun o => 0 ≤ o.2.1.toInt ∧ o.2.1.toInt ≤ 538) := by
  have hz : (0 : Int32).toInt = 0 := rfl
  unfold md_A_plan
  refine ok_zc sf_isDay (fun o1 h1 => ok_eq (fun _ => ok_some hs) (fun e => ?_))
  have ha : 0 ≤ a.toInt ∧ a.toInt ≤ 1000000 := by omega
  have e32 := l2i (a := a) (by omega)
  exact ok_zc (sf_make2 hj hm h (by omega) hN) (fun o2 h2 => ok_zc (sf_startAll h2 hj hnc hnd hN) (fun o3 h3 => ok_zc (sf_jobsIn hj hN) (fun o4 _ => ok_some h3)))
theorem sf_isIn {N : Nat} {jobs a b : Int32} {f : Nat → Int32} (hj : 0 ≤ jobs.toInt ∧ jobs.toInt ≤ 26) : ok (md_A_isIn N f jobs a b) (fun o => o.toInt = 0 ∨ (o.toInt = 1 ∧ 1 ≤ a.toInt ∧ a.toInt ≤ jobs.toInt)) := by
  unfold md_A_isIn
  repeat' (first | (refine ok_zc sf_has (fun _ _ => ?_)) | (exact ok_some (by first | omega | (simp only [i_add, i_sub, i_mul, l_add, l_sub, Int32.reduceToInt, Int64.reduceToInt, cl_n, true_or, or_true, true_and, and_true, and_self] at *; omega) | (simp only [i_add, i_sub, i_mul, l_add, l_sub, Int32.reduceToInt, Int64.reduceToInt, cl_n, true_or, or_true, true_and, and_true, and_self] at *; done))) | (refine ok_in (by first | omega | (simp only [i_add, i_sub, i_mul, l_add, l_sub, Int32.reduceToInt, Int64.reduceToInt, cl_n, true_or, or_true, true_and, and_true, and_self] at *; omega) | (simp only [i_add, i_sub, i_mul, l_add, l_sub, Int32.reduceToInt, Int64.reduceToInt, cl_n, true_or, or_true, true_and, and_true, and_self] at *; done)) ?_) | (refine ok_lt (fun _ => ?_) (fun _ => ?_)) | (refine ok_le (fun _ => ?_) (fun _ => ?_)) | (refine ok_eq (fun _ => ?_) (fun _ => ?_)) | (refine ok_ltL (fun _ => ?_) (fun _ => ?_)) | (refine ok_leL (fun _ => ?_) (fun _ => ?_)) | (refine ok_eqL (fun _ => ?_) (fun _ => ?_)) | (refine ok_zl ?_))
theorem sf_kepAdd {N : Nat} {a b : Int32} {l : Nat → Int64} {f : Nat → Int32} (ha : 0 ≤ a.toInt ∧ a.toInt ≤ 26) : ok (md_Kep_add N l f a b) (fun _ => True) := by
  unfold md_Kep_add
  repeat' (first | (exact ok_some trivial) | (exact ok_some (by first | omega | (simp only [i_add, i_sub, i_mul, l_add, l_sub, Int32.reduceToInt, Int64.reduceToInt, cl_n, true_or, or_true, true_and, and_true, and_self] at *; omega) | (simp only [i_add, i_sub, i_mul, l_add, l_sub, Int32.reduceToInt, Int64.reduceToInt, cl_n, true_or, or_true, true_and, and_true, and_self] at *; done))) | (refine ok_in (by first | omega | (simp only [i_add, i_sub, i_mul, l_add, l_sub, Int32.reduceToInt, Int64.reduceToInt, cl_n, true_or, or_true, true_and, and_true, and_self] at *; omega) | (simp only [i_add, i_sub, i_mul, l_add, l_sub, Int32.reduceToInt, Int64.reduceToInt, cl_n, true_or, or_true, true_and, and_true, and_self] at *; done)) ?_) | (refine ok_lt (fun _ => ?_) (fun _ => ?_)) | (refine ok_le (fun _ => ?_) (fun _ => ?_)) | (refine ok_eq (fun _ => ?_) (fun _ => ?_)) | (refine ok_ltL (fun _ => ?_) (fun _ => ?_)) | (refine ok_leL (fun _ => ?_) (fun _ => ?_)) | (refine ok_eqL (fun _ => ?_) (fun _ => ?_)) | (refine ok_zl ?_))
theorem ca_event {N : Nat} {st t jobs x y w : Int32} {s1 s2 s3 s4 kc nc : Nat → Int32} {ks : Nat → Int64} {g1 nd g3 : Nat → Nat → Int32} {a : Int64} (hs : 0 ≤ st.toInt ∧ st.toInt ≤ 538) (hj : 0 ≤ jobs.toInt ∧ jobs.toInt ≤ 26) (hnc : rg nc 27 0 20) (hnd : gg nd 27 20 0 26) (hN : 4000 ≤ N) : ok (md_A_event N st t s1 s2 s3 s4 ks kc jobs g1 nc nd g3 x y w a) (fun o => 0 ≤ o.2.1.toInt ∧ o.2.1.toInt ≤ 538) := by
  unfold md_A_event
  have hz : (0 : Int32).toInt = 0 := rfl
  have h1 : (1 : Int32).toInt = 1 := rfl
  have h2 : (2 : Int32).toInt = 2 := rfl
  refine ok_lt (fun _ => ok_some hs) (fun e1 => ok_lt (fun _ => ok_some hs) (fun e2 => ok_lt (fun _ => ok_some hs) (fun _ => ok_le (fun _ => ok_zl ?_) (fun _ => ok_some hs))))
  have hk : (y.toInt = 0 ∨ (0 ≤ x.toInt ∧ x.toInt ≤ 26)) → ok (if y = (1 : Int32) then (if sg_in x 27 = true then zl (upd s1 x.toNatClampNeg (3 : Int32)) (fun f4 => (if w = 0 then (if sg_in x 27 = true then (zc (md_Kep_add N ks kc x (a.toInt32 - (s2 x.toNatClampNeg))) (fun o6 => (zc (md_Pla_startAll N st a.toInt32 f4 s2 s3 s4 jobs g1 nc nd g3) (fun o7 => (some (o7.1, o7.2.1, a.toInt32, o7.2.2.1, o7.2.2.2.1, o7.2.2.2.2.1, o7.2.2.2.2.2, o6.1, o6.2)))))) else none) else (zc (md_Pla_startAll N st a.toInt32 f4 s2 s3 s4 jobs g1 nc nd g3) (fun o5 => (some (o5.1, o5.2.1, a.toInt32, o5.2.2.1, o5.2.2.2.1, o5.2.2.2.2.1, o5.2.2.2.2.2, ks, kc)))))) else none) else (if y = (2 : Int32) then (if sg_in x 27 = true then zl (upd s1 x.toNatClampNeg (4 : Int32)) (fun f2 => (zc (md_Pla_startAll N st a.toInt32 f2 s2 s3 s4 jobs g1 nc nd g3) (fun o3 => (some (o3.1, o3.2.1, a.toInt32, o3.2.2.1, o3.2.2.2.1, o3.2.2.2.2.1, o3.2.2.2.2.2, ks, kc))))) else none) else (zc (md_Pla_startAll N st a.toInt32 s1 s2 s3 s4 jobs g1 nc nd g3) (fun o1 => (some (o1.1, o1.2.1, a.toInt32, o1.2.2.1, o1.2.2.2.1, o1.2.2.2.2.1, o1.2.2.2.2.2, ks, kc)))))) (fun o => 0 ≤ o.2.1.toInt ∧ o.2.1.toInt ≤ 538) := by
    intro hx
    refine ok_eq (fun e => ok_in (by omega) (ok_zl (ok_eq (fun _ => ok_in (by omega) (ok_zc (sf_kepAdd (by omega)) (fun o6 _ => ok_zc (sf_startAll hs hj hnc hnd hN) (fun o7 h7 => ok_some h7)))) (fun _ => ok_zc (sf_startAll hs hj hnc hnd hN) (fun o7 h7 => ok_some h7))))) (fun e => ok_eq (fun _ => ok_in (by omega) (ok_zl (ok_zc (sf_startAll hs hj hnc hnd hN) (fun o7 h7 => ok_some h7)))) (fun _ => ok_zc (sf_startAll hs hj hnc hnd hN) (fun o7 h7 => ok_some h7)))
  refine ok_eq (fun e => hk (Or.inl (e.trans hz))) (fun e => ok_zc (sf_isIn hj) (fun o8 h8 => ok_eq (fun _ => ok_some hs) (fun e2 => hk (Or.inr (by omega)))))
theorem ca_started {N : Nat} {st a b : Int32} {f1 f2 : Nat → Int32} (hs : 0 ≤ st.toInt ∧ st.toInt ≤ 538) : ok (md_A_started N st f1 f2 a b) (fun _ => True) := by
  unfold md_A_started
  repeat' (first | (exact ok_some trivial) | (exact ok_some (by first | omega | (simp only [i_add, i_sub, i_mul, l_add, l_sub, Int32.reduceToInt, Int64.reduceToInt, cl_n, true_or, or_true, true_and, and_true, and_self] at *; omega) | (simp only [i_add, i_sub, i_mul, l_add, l_sub, Int32.reduceToInt, Int64.reduceToInt, cl_n, true_or, or_true, true_and, and_true, and_self] at *; done))) | (refine ok_in (by first | omega | (simp only [i_add, i_sub, i_mul, l_add, l_sub, Int32.reduceToInt, Int64.reduceToInt, cl_n, true_or, or_true, true_and, and_true, and_self] at *; omega) | (simp only [i_add, i_sub, i_mul, l_add, l_sub, Int32.reduceToInt, Int64.reduceToInt, cl_n, true_or, or_true, true_and, and_true, and_self] at *; done)) ?_) | (refine ok_lt (fun _ => ?_) (fun _ => ?_)) | (refine ok_le (fun _ => ?_) (fun _ => ?_)) | (refine ok_eq (fun _ => ?_) (fun _ => ?_)) | (refine ok_ltL (fun _ => ?_) (fun _ => ?_)) | (refine ok_leL (fun _ => ?_) (fun _ => ?_)) | (refine ok_eqL (fun _ => ?_) (fun _ => ?_)) | (refine ok_zl ?_))
theorem ca_rerun {N : Nat} {st t jobs a : Int32} {s1 s2 s3 s4 al nc : Nat → Int32} {g1 nd g3 : Nat → Nat → Int32} (hs : 0 ≤ st.toInt ∧ st.toInt ≤ 538) (hj : 0 ≤ jobs.toInt ∧ jobs.toInt ≤ 26) (hnc : rg nc 27 0 20) (hnd : gg nd 27 20 0 26) (hN : 4000 ≤ N) : ok (md_A_rerun N st t s1 s2 s3 s4 jobs g1 nc nd g3 al a) (fun o => 0 ≤ o.2.1.toInt ∧ o.2.1.toInt ≤ 538) := by
  unfold md_A_rerun
  refine ok_zc sf_has (fun o1 h1 => ok_eq (fun _ => ok_some hs) (fun _ => ok_zc (sf_isIn hj) (fun o2 h2 => ok_zl ?_)))
  have hk : ok (zc (md_Pla_anyRunsBehind N s1 jobs al a) (fun o3 => (if o3 = 0 then (zc (md_Pla_waitAgain N s1 jobs al a) (fun o4 => (zc (md_Pla_startAll N st t o4.2 s2 s3 s4 jobs g1 nc nd g3) (fun o5 => (some (o4.1, o5.2.1, o5.2.2.1, o5.2.2.2.1, o5.2.2.2.2.1, o5.2.2.2.2.2)))))) else (some ((0 : Int32), st, s1, s2, s3, s4))))) (fun o => 0 ≤ o.2.1.toInt ∧ o.2.1.toInt ≤ 538) :=
    ok_zc (sf_anyRuns hj hN) (fun o3 _ => ok_eq (fun _ => ok_zc (sf_waitAgain hj hN) (fun o4 _ => ok_zc (sf_startAll hs hj hnc hnd hN) (fun o5 h5 => ok_some h5))) (fun _ => ok_some hs))
  exact ok_eq (fun _ => ok_zc (sf_isIn hj) (fun o6 _ => ok_eq (fun _ => ok_some hs) (fun _ => hk))) (fun _ => hk)
theorem ca_ring {N : Nat} {len a : Int32} {f : Nat → Int32} (h : 0 ≤ len.toInt ∧ len.toInt ≤ 26) : ok (md_A_ring N len f a) (fun o => o = if 0 ≤ a.toInt ∧ a.toInt < len.toInt then f a.toInt.toNat else 0) := by
  unfold md_A_ring
  exact ok_zc (sf_jobAt h) (fun o h1 => ok_some h1)
theorem ca_crit {N : Nat} {len jobs a : Int32} {f1 bf row nc f3 st : Nat → Int32} {g1 nd : Nat → Nat → Int32} (hb : rg bf 27 0 26) (hj : 0 ≤ jobs.toInt ∧ jobs.toInt ≤ 26) (hnc : rg nc 27 0 20) (hnd : gg nd 27 20 0 26) (hN : 4000 ≤ N) : ok (md_A_critical N st f1 bf len row jobs g1 nc nd f3 a) (fun o => rg o.2.2.1 27 0 26) := by
  unfold md_A_critical
  exact ok_zc (sf_lonFind hb hj hnc hnd hN) (fun o1 h1 => ok_zc (sf_jobAt h1.2) (fun o2 _ => ok_some h1.1))
theorem ca_mean {N : Nat} {jobs a b : Int32} {l : Nat → Int64} {f : Nat → Int32} (hj : 0 ≤ jobs.toInt ∧ jobs.toInt ≤ 26) : (∃ o, md_A_mean N l f jobs a b = some o) ∨ (∃ o, mt_A_mean N l f jobs a b = some o) := by
  have hz : (0 : Int32).toInt = 0 := rfl
  have hl : (0 : Int64).toInt = 0 := rfl
  by_cases hc : (1 ≤ a.toInt ∧ a.toInt ≤ jobs.toInt) ∧ (0 ≤ b.toInt ∧ b.toInt ≤ 1) ∧ ¬ 0 < (f a.toInt.toNat).toInt
  · right
    have : ok (mt_A_mean N l f jobs a b) (fun _ => True) := by
      unfold mt_A_mean
      have h1 : (1 : Int32).toInt = 1 := rfl
      refine ok_zc sf_has (fun o1 ho1 => ok_eq (fun e => by omega) (fun e => ok_lt (fun e => by omega) (fun e => ok_le (fun e => ok_in (by omega) (ok_lt (fun e => ?_) (fun e => ok_some trivial))) (fun e => by omega))))
      exact absurd e hc.2.2
    obtain ⟨o, h, -⟩ := this
    exact ⟨o, h⟩
  · left
    have : ok (md_A_mean N l f jobs a b) (fun _ => True) := by
      unfold md_A_mean
      have h1 : (1 : Int32).toInt = 1 := rfl
      refine ok_zc sf_has (fun o1 ho1 => ok_eq (fun e => ok_some trivial) (fun e => ok_lt (fun e => ok_some trivial) (fun e2 => ok_le (fun e3 => ok_in (by omega) (ok_lt (fun e4 => ?_) (fun e4 => ?_))) (fun e => ok_some trivial))))
      · have hne : ((f a.toNatClampNeg).toInt64).toInt ≠ (0 : Int64).toInt := by
          rw [i2l]; omega
        exact ok_eq (fun _ => ok_in (by omega) (ok_neL hne (ok_some trivial))) (fun _ => ok_in (by omega) (ok_neL hne (ok_some trivial)))
      · exact absurd ⟨by omega, by omega, e4⟩ hc
    obtain ⟨o, h, -⟩ := this
    exact ⟨o, h⟩
theorem ca_state {N : Nat} {jobs a : Int32} {f : Nat → Int32} (hj : 0 ≤ jobs.toInt ∧ jobs.toInt ≤ 26) : ok (md_A_state N f jobs a) (fun _ => True) := by
  unfold md_A_state
  repeat' (first | (exact ok_some trivial) | (refine ok_zc sf_has (fun _ _ => ?_)) | (exact ok_some (by first | omega | (simp only [i_add, i_sub, i_mul, l_add, l_sub, Int32.reduceToInt, Int64.reduceToInt, cl_n, true_or, or_true, true_and, and_true, and_self] at *; omega) | (simp only [i_add, i_sub, i_mul, l_add, l_sub, Int32.reduceToInt, Int64.reduceToInt, cl_n, true_or, or_true, true_and, and_true, and_self] at *; done))) | (refine ok_in (by first | omega | (simp only [i_add, i_sub, i_mul, l_add, l_sub, Int32.reduceToInt, Int64.reduceToInt, cl_n, true_or, or_true, true_and, and_true, and_self] at *; omega) | (simp only [i_add, i_sub, i_mul, l_add, l_sub, Int32.reduceToInt, Int64.reduceToInt, cl_n, true_or, or_true, true_and, and_true, and_self] at *; done)) ?_) | (refine ok_lt (fun _ => ?_) (fun _ => ?_)) | (refine ok_le (fun _ => ?_) (fun _ => ?_)) | (refine ok_eq (fun _ => ?_) (fun _ => ?_)) | (refine ok_ltL (fun _ => ?_) (fun _ => ?_)) | (refine ok_leL (fun _ => ?_) (fun _ => ?_)) | (refine ok_eqL (fun _ => ?_) (fun _ => ?_)) | (refine ok_zl ?_))
theorem ca_count {N : Nat} {made hc st t len jobs a : Int32} {f : Nat → Int32} (hj : 0 ≤ jobs.toInt ∧ jobs.toInt ≤ 26) (hN : 4000 ≤ N) : ok (md_A_count N made hc st t f len jobs a) (fun _ => True) := by
  unfold md_A_count
  repeat' (first | (exact ok_some trivial) | (refine ok_zc (sf_jobsIn hj hN) (fun _ _ => ?_)) | (refine ok_zc (sf_running hj hN) (fun _ _ => ?_)) | (exact ok_some (by first | omega | (simp only [i_add, i_sub, i_mul, l_add, l_sub, Int32.reduceToInt, Int64.reduceToInt, cl_n, true_or, or_true, true_and, and_true, and_self] at *; omega) | (simp only [i_add, i_sub, i_mul, l_add, l_sub, Int32.reduceToInt, Int64.reduceToInt, cl_n, true_or, or_true, true_and, and_true, and_self] at *; done))) | (refine ok_in (by first | omega | (simp only [i_add, i_sub, i_mul, l_add, l_sub, Int32.reduceToInt, Int64.reduceToInt, cl_n, true_or, or_true, true_and, and_true, and_self] at *; omega) | (simp only [i_add, i_sub, i_mul, l_add, l_sub, Int32.reduceToInt, Int64.reduceToInt, cl_n, true_or, or_true, true_and, and_true, and_self] at *; done)) ?_) | (refine ok_lt (fun _ => ?_) (fun _ => ?_)) | (refine ok_le (fun _ => ?_) (fun _ => ?_)) | (refine ok_eq (fun _ => ?_) (fun _ => ?_)) | (refine ok_ltL (fun _ => ?_) (fun _ => ?_)) | (refine ok_leL (fun _ => ?_) (fun _ => ?_)) | (refine ok_eqL (fun _ => ?_) (fun _ => ?_)) | (refine ok_zl ?_))
