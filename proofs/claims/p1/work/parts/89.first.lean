-- 89.first: what every call answers on a fresh object, in the class and in the reference
theorem pr2 {α β : Type} {x : Option α} {y : Option β} {P : α → Prop} {Q : β → Prop} {R : α → β → Prop} (hx : ok x P) (hy : ok y Q) (h : ∀ a b, P a → Q b → R a b) : ∃ a, x = some a ∧ ∃ b, y = some b ∧ R a b := by
  obtain ⟨a, e1, h1⟩ := hx
  obtain ⟨b, e2, h2⟩ := hy
  exact ⟨a, e1, b, e2, h a b h1 h2⟩
theorem fr_isRule {N : Nat} {a b : Int32} : ok (md_Cal_isRule N a b) (fun o => (o.toInt = 1 ∧ (((a.toInt = 0 ∨ a.toInt = 2) ∧ 0 ≤ b.toInt ∧ b.toInt ≤ 6) ∨ ((a.toInt = 1 ∨ a.toInt = 3) ∧ 1 ≤ b.toInt ∧ b.toInt ≤ 30))) ∨ (o.toInt = 0 ∧ ¬ (((a.toInt = 0 ∨ a.toInt = 2) ∧ 0 ≤ b.toInt ∧ b.toInt ≤ 6) ∨ ((a.toInt = 1 ∨ a.toInt = 3) ∧ 1 ≤ b.toInt ∧ b.toInt ≤ 30)))) := by
  unfold md_Cal_isRule
  repeat' (first | (exact ok_some (by first | omega | (simp only [i_add, i_sub, i_mul, l_add, l_sub, Int32.reduceToInt, Int64.reduceToInt, cl_n, true_or, or_true, true_and, and_true, and_self] at *; omega) | (simp only [i_add, i_sub, i_mul, l_add, l_sub, Int32.reduceToInt, Int64.reduceToInt, cl_n, true_or, or_true, true_and, and_true, and_self] at *; done))) | (refine ok_in (by first | omega | (simp only [i_add, i_sub, i_mul, l_add, l_sub, Int32.reduceToInt, Int64.reduceToInt, cl_n, true_or, or_true, true_and, and_true, and_self] at *; omega) | (simp only [i_add, i_sub, i_mul, l_add, l_sub, Int32.reduceToInt, Int64.reduceToInt, cl_n, true_or, or_true, true_and, and_true, and_self] at *; done)) ?_) | (refine ok_lt (fun _ => ?_) (fun _ => ?_)) | (refine ok_le (fun _ => ?_) (fun _ => ?_)) | (refine ok_eq (fun _ => ?_) (fun _ => ?_)) | (refine ok_ltL (fun _ => ?_) (fun _ => ?_)) | (refine ok_leL (fun _ => ?_) (fun _ => ?_)) | (refine ok_eqL (fun _ => ?_) (fun _ => ?_)) | (refine ok_zl ?_))
theorem fr_calA {N : Nat} {made a b : Int32} {f1 f2 : Nat → Int32} (hm : made.toInt = 1) : ok (md_A_calendar N made f1 f2 a b) (fun o => (o.1.toInt = 1 ∧ (((a.toInt = 0 ∨ a.toInt = 2) ∧ 0 ≤ b.toInt ∧ b.toInt ≤ 6) ∨ ((a.toInt = 1 ∨ a.toInt = 3) ∧ 1 ≤ b.toInt ∧ b.toInt ≤ 30))) ∨ (o.1.toInt = -1 ∧ ¬ (((a.toInt = 0 ∨ a.toInt = 2) ∧ 0 ≤ b.toInt ∧ b.toInt ≤ 6) ∨ ((a.toInt = 1 ∨ a.toInt = 3) ∧ 1 ≤ b.toInt ∧ b.toInt ≤ 30)))) := by
  unfold md_A_calendar md_Cal_make
  refine ok_zc (Q := fun o => (o.1.toInt = 1 ∧ (((a.toInt = 0 ∨ a.toInt = 2) ∧ 0 ≤ b.toInt ∧ b.toInt ≤ 6) ∨ ((a.toInt = 1 ∨ a.toInt = 3) ∧ 1 ≤ b.toInt ∧ b.toInt ≤ 30))) ∨ (o.1.toInt = -1 ∧ ¬ (((a.toInt = 0 ∨ a.toInt = 2) ∧ 0 ≤ b.toInt ∧ b.toInt ≤ 6) ∨ ((a.toInt = 1 ∨ a.toInt = 3) ∧ 1 ≤ b.toInt ∧ b.toInt ≤ 30)))) ?_ (fun o h => ok_some h)
  refine ok_zc fr_isRule (fun o ho => ?_)
  repeat' (first | (exact ok_some (by first | omega | (simp only [i_add, i_sub, i_mul, l_add, l_sub, Int32.reduceToInt, Int64.reduceToInt, cl_n, true_or, or_true, true_and, and_true, and_self] at *; omega) | (simp only [i_add, i_sub, i_mul, l_add, l_sub, Int32.reduceToInt, Int64.reduceToInt, cl_n, true_or, or_true, true_and, and_true, and_self] at *; done))) | (refine ok_in (by first | omega | (simp only [i_add, i_sub, i_mul, l_add, l_sub, Int32.reduceToInt, Int64.reduceToInt, cl_n, true_or, or_true, true_and, and_true, and_self] at *; omega) | (simp only [i_add, i_sub, i_mul, l_add, l_sub, Int32.reduceToInt, Int64.reduceToInt, cl_n, true_or, or_true, true_and, and_true, and_self] at *; done)) ?_) | (refine ok_lt (fun _ => ?_) (fun _ => ?_)) | (refine ok_le (fun _ => ?_) (fun _ => ?_)) | (refine ok_eq (fun _ => ?_) (fun _ => ?_)) | (refine ok_ltL (fun _ => ?_) (fun _ => ?_)) | (refine ok_leL (fun _ => ?_) (fun _ => ?_)) | (refine ok_eqL (fun _ => ?_) (fun _ => ?_)) | (refine ok_zl ?_))
theorem fr_calB {N : Nat} {cd made a b : Int32} {f1 f2 : Nat → Int32} (hm : made.toInt = 0) : ok (md_B_calendar N cd made f1 f2 a b) (fun o => (o.1.toInt = 1 ∧ (((a.toInt = 0 ∨ a.toInt = 2) ∧ 0 ≤ b.toInt ∧ b.toInt ≤ 6) ∨ ((a.toInt = 1 ∨ a.toInt = 3) ∧ 1 ≤ b.toInt ∧ b.toInt ≤ 30))) ∨ (o.1.toInt = -1 ∧ ¬ (((a.toInt = 0 ∨ a.toInt = 2) ∧ 0 ≤ b.toInt ∧ b.toInt ≤ 6) ∨ ((a.toInt = 1 ∨ a.toInt = 3) ∧ 1 ≤ b.toInt ∧ b.toInt ≤ 30)))) := by
  unfold md_B_calendar
  repeat' (first | (exact ok_some (by first | omega | (simp only [i_add, i_sub, i_mul, l_add, l_sub, Int32.reduceToInt, Int64.reduceToInt, cl_n, true_or, or_true, true_and, and_true, and_self] at *; omega) | (simp only [i_add, i_sub, i_mul, l_add, l_sub, Int32.reduceToInt, Int64.reduceToInt, cl_n, true_or, or_true, true_and, and_true, and_self] at *; done))) | (refine ok_in (by first | omega | (simp only [i_add, i_sub, i_mul, l_add, l_sub, Int32.reduceToInt, Int64.reduceToInt, cl_n, true_or, or_true, true_and, and_true, and_self] at *; omega) | (simp only [i_add, i_sub, i_mul, l_add, l_sub, Int32.reduceToInt, Int64.reduceToInt, cl_n, true_or, or_true, true_and, and_true, and_self] at *; done)) ?_) | (refine ok_lt (fun _ => ?_) (fun _ => ?_)) | (refine ok_le (fun _ => ?_) (fun _ => ?_)) | (refine ok_eq (fun _ => ?_) (fun _ => ?_)) | (refine ok_ltL (fun _ => ?_) (fun _ => ?_)) | (refine ok_leL (fun _ => ?_) (fun _ => ?_)) | (refine ok_eqL (fun _ => ?_) (fun _ => ?_)) | (refine ok_zl ?_))
theorem fr_holA {N : Nat} {hc : Int32} {f : Nat → Int32} {a : Int64} (h : hc.toInt = 0) (hN : 4000 ≤ N) : ok (md_A_holiday N hc f a) (fun o => (o.1.toInt = 1 ∧ 0 ≤ a.toInt ∧ a.toInt ≤ 1000000) ∨ (o.1.toInt = -1 ∧ ¬ (0 ≤ a.toInt ∧ a.toInt ≤ 1000000))) := by
  have hz : (0 : Int32).toInt = 0 := rfl
  have h9 : (100 : Int32).toInt = 100 := rfl
  have hm1 : (-1 : Int32).toInt = -1 := rfl
  unfold md_A_holiday md_Cal_turnHoliday
  refine ok_zc sf_isDay (fun o1 h1 => ok_eq (fun e => ok_some (Or.inr ⟨rfl, by omega⟩)) (fun e => ok_zc (Q := fun o => o.1.toInt = 1) ?_ (fun o2 h2 => ok_some (Or.inl ⟨h2, by omega⟩))))
  refine ok_lt (fun _ => ok_zc (sf_holidayPlace (by omega) hN) (fun o ho => ok_eq (fun _ => ok_in (by omega) (ok_zl (ok_some ?_))) (fun e2 => by exfalso; omega))) (fun e2 => by exfalso; omega)
  first | omega | (simp only [i_add, i_sub, i_mul, l_add, l_sub, Int32.reduceToInt, Int64.reduceToInt, cl_n, true_or, or_true, true_and, and_true, and_self] at *; omega) | (simp only [i_add, i_sub, i_mul, l_add, l_sub, Int32.reduceToInt, Int64.reduceToInt, cl_n, true_or, or_true, true_and, and_true, and_self] at *; done)
theorem fr_holB {N : Nat} {cd days : Int32} {f : Nat → Int64} {a : Int64} (h : days.toInt = 0) (hN : 4000 ≤ N) : ok (md_B_holiday N cd days f a) (fun o => (o.1.toInt = 1 ∧ 0 ≤ a.toInt ∧ a.toInt ≤ 1000000) ∨ (o.1.toInt = -1 ∧ ¬ (0 ≤ a.toInt ∧ a.toInt ≤ 1000000))) := by
  have l1 := lc_f a 0
  have l2 := lc_f a 1000000
  have h0 : (0 : Int64).toInt = 0 := rfl
  have h1 : (1000000 : Int64).toInt = 1000000 := rfl
  have hz : (0 : Int32).toInt = 0 := rfl
  have h9 : (100 : Int32).toInt = 100 := rfl
  unfold md_B_holiday
  refine ok_lt (fun _ => ok_some (Or.inr ⟨rfl, by omega⟩)) (fun _ => ok_le (fun _ => ?_) (fun _ => ok_some (Or.inr ⟨rfl, by omega⟩)))
  refine ok_fx1 (fun x => x.toInt = 0) (fun _ => 0) ?_ _ _ hz (by omega)
  intro rec x hI ih
  unfold md_B_holiday_F23
  refine ok_le (fun _ => ok_eq (fun e => by exfalso; omega) (fun _ => ok_in (by omega) (ok_zl (ok_some (Or.inl ⟨?_, by omega⟩))))) (fun e => by exfalso; omega)
  first | omega | (simp only [i_add, i_sub, i_mul, l_add, l_sub, Int32.reduceToInt, Int64.reduceToInt, cl_n, true_or, or_true, true_and, and_true, and_self] at *; omega) | (simp only [i_add, i_sub, i_mul, l_add, l_sub, Int32.reduceToInt, Int64.reduceToInt, cl_n, true_or, or_true, true_and, and_true, and_self] at *; done)
theorem fr_hasA {N : Nat} {made hc x d : Int32} {f1 f2 f3 : Nat → Int32} (hm : made.toInt = 1) : ok (md_Cal_hasDay N made hc f1 f2 f3 x d) (fun o => (o.toInt = 1 ∧ x.toInt = 0) ∨ (o.toInt = 0 ∧ ¬ x.toInt = 0)) := by
  have hz : (0 : Int32).toInt = 0 := rfl
  unfold md_Cal_hasDay
  exact ok_lt (fun _ => ok_some (Or.inr ⟨rfl, by omega⟩)) (fun _ => ok_lt (fun _ => ok_eq (fun _ => ok_some (Or.inl ⟨rfl, by omega⟩)) (fun e => by exfalso; omega)) (fun _ => ok_some (Or.inr ⟨rfl, by omega⟩)))
theorem fr_firstDay {N : Nat} {made hc x d : Int32} {f1 f2 f3 : Nat → Int32} (hm : made.toInt = 1) (hd : 0 ≤ d.toInt ∧ d.toInt ≤ 1000000) (hN : 4000 ≤ N) : ok (md_Cal_firstDay N made hc f1 f2 f3 x d) (fun o => (o.toInt = d.toInt ∧ x.toInt = 0) ∨ (o.toInt = -1 ∧ ¬ x.toInt = 0)) := by
  have hz : (0 : Int32).toInt = 0 := rfl
  have h4 : (400 : Int32).toInt = 400 := rfl
  have h1 : (1 : Int32).toInt = 1 := rfl
  have e4 := i_add d 400
  unfold md_Cal_firstDay
  refine ok_fx1 (fun y => (d.toInt ≤ y.toInt ∧ y.toInt ≤ d.toInt + 401) ∧ (x.toInt = 0 → y.toInt = d.toInt)) (fun y => (d.toInt + 401 - y.toInt).toNat) ?_ _ _ ⟨by omega, fun _ => rfl⟩ (by omega)
  intro rec y hI ih
  have e1 := i_add y 1
  unfold md_Cal_firstDay_F2
  refine ok_lt (fun e => ok_some (Or.inr ⟨rfl, fun q => by have := hI.2 q; omega⟩)) (fun e => ok_zc (fr_hasA hm) (fun o ho => ok_eq (fun e2 => ih _ ⟨by omega, fun q => by exfalso; omega⟩ (by omega)) (fun e2 => ok_some (Or.inl ⟨hI.2 (by omega), by omega⟩))))
theorem fr_nextA {N : Nat} {made hc x : Int32} {f1 f2 f3 : Nat → Int32} {a : Int64} (hm : made.toInt = 1) (hN : 4000 ≤ N) : ok (md_A_next N made hc f1 f2 f3 x a) (fun o => (o.toInt = a.toInt ∧ x.toInt = 0 ∧ 0 ≤ a.toInt ∧ a.toInt ≤ 1000000) ∨ (o.toInt = -1 ∧ ¬ (x.toInt = 0 ∧ 0 ≤ a.toInt ∧ a.toInt ≤ 1000000))) := by
  have hz : (0 : Int32).toInt = 0 := rfl
  unfold md_A_next
  refine ok_zc sf_isDay (fun o1 h1 => ok_eq (fun e => ok_some (Or.inr ⟨rfl, by omega⟩)) (fun e => ?_))
  have ha : 0 ≤ a.toInt ∧ a.toInt ≤ 1000000 := by omega
  have e32 := l2i (a := a) (by omega)
  refine ok_zc (fr_firstDay hm (by omega) hN) (fun o2 h2 => ok_some ?_)
  have ei := i2l o2
  show (o2.toInt64.toInt = a.toInt ∧ _) ∨ (o2.toInt64.toInt = -1 ∧ _)
  rw [ei]
  omega
theorem fr_hasB {N : Nat} {made days x : Int32} {f1 f2 : Nat → Int32} {f : Nat → Int64} {d : Int64} (hm : made.toInt = 0) : ok (md_B_has N made days f1 f2 f x d) (fun o => (o.toInt = 1 ∧ x.toInt = 0) ∨ (o.toInt = 0 ∧ ¬ x.toInt = 0)) := by
  have hz : (0 : Int32).toInt = 0 := rfl
  unfold md_B_has
  exact ok_eq (fun _ => ok_some (Or.inl ⟨rfl, by omega⟩)) (fun _ => ok_lt (fun _ => ok_some (Or.inr ⟨rfl, by omega⟩)) (fun _ => ok_le (fun e => by exfalso; omega) (fun _ => ok_some (Or.inr ⟨rfl, by omega⟩))))
theorem fr_nextB {N : Nat} {cd made days x : Int32} {f1 f2 : Nat → Int32} {f : Nat → Int64} {a : Int64} (hm : made.toInt = 0) (hN : 4000 ≤ N) : ok (md_B_next N cd made days f1 f2 f x a) (fun o => (o.1.toInt = a.toInt ∧ x.toInt = 0 ∧ 0 ≤ a.toInt ∧ a.toInt ≤ 1000000) ∨ (o.1.toInt = -1 ∧ ¬ (x.toInt = 0 ∧ 0 ≤ a.toInt ∧ a.toInt ≤ 1000000))) := by
  have l1 := lc_f a 0
  have l2 := lc_f a 1000000
  have h0 : (0 : Int64).toInt = 0 := rfl
  have h1 : (1 : Int64).toInt = 1 := rfl
  have h4 : (400 : Int64).toInt = 400 := rfl
  have h6 : (1000000 : Int64).toInt = 1000000 := rfl
  have hz : (0 : Int32).toInt = 0 := rfl
  unfold md_B_next
  refine ok_lt (fun _ => ok_some (Or.inr ⟨rfl, by omega⟩)) (fun _ => ok_le (fun _ => ?_) (fun _ => ok_some (Or.inr ⟨rfl, by omega⟩)))
  have hd : 0 ≤ a.toInt ∧ a.toInt ≤ 1000000 := by omega
  clear l1 l2
  have e4 := l_add a 400
  refine ok_fx1 (fun y => (a.toInt ≤ y.toInt ∧ y.toInt ≤ a.toInt + 401) ∧ (x.toInt = 0 → y.toInt = a.toInt)) (fun y => (a.toInt + 401 - y.toInt).toNat) ?_ _ _ ⟨by omega, fun _ => rfl⟩ (by omega)
  intro rec y hI ih
  have e1 := l_add y 1
  have lc := lc_f y (a + 400)
  unfold md_B_next_F26
  refine ok_lt (fun e => ok_some (Or.inr ⟨rfl, fun q => by have := hI.2 q.1; omega⟩)) (fun e => ok_zc (fr_hasB hm) (fun o ho => ok_eq (fun e2 => ih _ ⟨by omega, fun q => by exfalso; omega⟩ (by omega)) (fun e2 => ok_some (Or.inl ⟨hI.2 (by omega), by omega⟩))))
theorem fr_jobsIn {N : Nat} {jobs : Int32} {f : Nat → Int32} (h : jobs.toInt = 0) (hN : 4000 ≤ N) : ok (md_Pla_jobsIn N f jobs) (fun o => o.toInt = 0) := by
  have h1 : (1 : Int32).toInt = 1 := rfl
  unfold md_Pla_jobsIn
  refine ok_fx2 (fun x y => x.toInt = 1 ∧ y.toInt = 0) (fun _ _ => 0) ?_ _ _ _ ⟨rfl, rfl⟩ (by omega)
  intro rec x y hI ih
  unfold md_Pla_jobsIn_F4
  exact ok_lt (fun _ => ok_some hI.2) (fun e => by exfalso; omega)
theorem fr_running {N : Nat} {jobs : Int32} {f : Nat → Int32} (h : jobs.toInt = 0) (hN : 4000 ≤ N) : ok (md_Pla_running N f jobs) (fun o => o.toInt = 0) := by
  unfold md_Pla_running
  refine ok_fx2 (fun x y => x.toInt = 1 ∧ y.toInt = 0) (fun _ _ => 0) ?_ _ _ _ ⟨rfl, rfl⟩ (by omega)
  intro rec x y hI ih
  unfold md_Pla_running_F4
  exact ok_lt (fun _ => ok_some hI.2) (fun e => by exfalso; omega)
theorem fr_first {N : Nat} {t jobs : Int32} {f1 nc : Nat → Int32} {g1 nd g3 : Nat → Nat → Int32} (h : jobs.toInt = 0) (hN : 4000 ≤ N) : ok (md_Pla_firstToStart N t f1 jobs g1 nc nd g3) (fun o => o.toInt = 0) := by
  unfold md_Pla_firstToStart
  refine ok_fx2 (fun x y => x.toInt = 1 ∧ y.toInt = 0) (fun _ _ => 0) ?_ _ _ _ ⟨rfl, rfl⟩ (by omega)
  intro rec x y hI ih
  unfold md_Pla_firstToStart_F4
  exact ok_lt (fun _ => ok_some hI.2) (fun e => by exfalso; omega)
theorem fr_startAll {N : Nat} {st t jobs : Int32} {f1 f2 f3 f4 nc : Nat → Int32} {g1 nd g3 : Nat → Nat → Int32} (h : jobs.toInt = 0) (hN : 4000 ≤ N) : ok (md_Pla_startAll N st t f1 f2 f3 f4 jobs g1 nc nd g3) (fun o => o.1.toInt = 0) := by
  have hz : (0 : Int32).toInt = 0 := rfl
  unfold md_Pla_startAll
  refine ok_fx7 (fun x y _ _ _ _ _ => x.toInt = 0 ∧ y.toInt = 0) (fun _ _ _ _ _ _ _ => 0) ?_ _ _ _ _ _ _ _ _ ⟨rfl, rfl⟩ (by omega)
  intro rec x y z f5 f6 f7 f8 hI ih
  unfold md_Pla_startAll_F4
  exact ok_le (fun _ => ok_some hI.2) (fun _ => ok_zc (fr_first h hN) (fun o ho => ok_eq (fun _ => ok_some hI.2) (fun e => by exfalso; omega)))
theorem fr_planA {N : Nat} {made hc st t jobs : Int32} {f1 f2 f3 s1 s2 s3 s4 nc : Nat → Int32} {g1 nd g3 : Nat → Nat → Int32} {a : Int64} (hm : made.toInt = 1) (h : hc.toInt = 0) (hj : jobs.toInt = 0) (hN : 4000 ≤ N) : ok (md_A_plan N made hc f1 f2 f3 st t s1 s2 s3 s4 jobs g1 nc nd g3 a) (fun o => (o.1.toInt = 0 ∧ 0 ≤ a.toInt ∧ a.toInt ≤ 1000000) ∨ (o.1.toInt = -1 ∧ ¬ (0 ≤ a.toInt ∧ a.toInt ≤ 1000000))) := by
  have hz : (0 : Int32).toInt = 0 := rfl
  unfold md_A_plan
  refine ok_zc sf_isDay (fun o1 h1 => ok_eq (fun e => ok_some (Or.inr ⟨rfl, by omega⟩)) (fun e => ?_))
  have ha : 0 ≤ a.toInt ∧ a.toInt ≤ 1000000 := by omega
  have e32 := l2i (a := a) (by omega)
  exact ok_zc (sf_make2 (by omega) (by omega) (by omega) (by omega) hN) (fun o2 h2 => ok_zc (fr_startAll hj hN) (fun o3 h3 => ok_zc (fr_jobsIn hj hN) (fun o4 h4 => ok_some (Or.inl ⟨h4, ha⟩))))
theorem fr_begin {N : Nat} {now : Int64} {jobs sd : Int32} {f1 f2 many needs f3 st f4 : Nat → Int32} {l1 l2 : Nat → Int64} (hj : jobs.toInt = 0) (hN : 4000 ≤ N) : ok (md_B_begin N jobs now sd f1 f2 many needs f3 st l1 f4 l2) (fun o => o.1.toInt = 0) := by
  have hz : (0 : Int32).toInt = 0 := rfl
  unfold md_B_begin
  refine ok_fx7 (fun x y _ _ _ _ _ => 0 ≤ x.toInt ∧ x.toInt ≤ 1 ∧ y.toInt = 0) (fun x _ _ _ _ _ _ => x.toInt.toNat) ?_ _ _ _ _ _ _ _ _ ⟨by decide, by decide, rfl⟩ (show (1 : Nat) < N by omega)
  intro rec x y z s k1 k2 k3 hI ih
  unfold md_B_begin_F4
  refine ok_eq (fun _ => ok_some hI.2.2) (fun hx0 => ?_)
  refine ok_fx2 (fun u v => u.toInt = 0 ∧ v.toInt = 0) (fun _ _ => 0) ?_ _ _ _ ⟨hj, rfl⟩ (by omega)
  intro rec2 u v hI2 ih2
  unfold md_B_begin_F15
  exact ok_le (fun _ => ok_eq (fun _ => ih _ _ _ _ _ _ _ ⟨by omega, by omega, hI.2.2⟩ (by omega)) (fun e => by exfalso; omega)) (fun e => by exfalso; omega)
theorem fr_planB {N : Nat} {cd jobs made days sd : Int32} {now a : Int64} {f1 f2 f3 many needs f4 f5 f6 f7 f8 : Nat → Int32} {l1 l2 l3 : Nat → Int64} (hj : jobs.toInt = 0) (hN : 4000 ≤ N) : ok (md_B_plan N cd jobs made days now sd f1 f2 f3 many needs f4 f5 f6 l1 f7 l2 f8 l3 a) (fun o => (o.1.toInt = 0 ∧ 0 ≤ a.toInt ∧ a.toInt ≤ 1000000) ∨ (o.1.toInt = -1 ∧ ¬ (0 ≤ a.toInt ∧ a.toInt ≤ 1000000))) := by
  have l1 := lc_f a 0
  have l2 := lc_f a 1000000
  have h0 : (0 : Int64).toInt = 0 := rfl
  have h6 : (1000000 : Int64).toInt = 1000000 := rfl
  have hz : (0 : Int32).toInt = 0 := rfl
  unfold md_B_plan
  refine ok_lt (fun _ => ok_some (Or.inr ⟨rfl, by omega⟩)) (fun _ => ok_le (fun _ => ?_) (fun _ => ok_some (Or.inr ⟨rfl, by omega⟩)))
  refine ok_fx3 (fun x y _ => x.toInt = 1 ∧ y.toInt = 0) (fun _ _ _ => 0) ?_ _ _ _ _ ⟨rfl, rfl⟩ (by omega)
  intro rec x y f hI ih
  unfold md_B_plan_F36
  exact ok_lt (fun _ => ok_zc (fr_begin hj hN) (fun o ho => ok_some (Or.inl ⟨hI.2, by omega⟩))) (fun e => by exfalso; omega)
theorem fr_eventA {N : Nat} {st t jobs x y w : Int32} {s1 s2 s3 s4 kc nc : Nat → Int32} {ks : Nat → Int64} {g1 nd g3 : Nat → Nat → Int32} {a : Int64} (ht : t.toInt = 0) (hj : jobs.toInt = 0) (hN : 4000 ≤ N) : ok (md_A_event N st t s1 s2 s3 s4 ks kc jobs g1 nc nd g3 x y w a) (fun o => (o.1.toInt = 0 ∧ y.toInt = 0 ∧ 0 ≤ a.toInt ∧ a.toInt ≤ 1000000000) ∨ (o.1.toInt = -1 ∧ ¬ (y.toInt = 0 ∧ 0 ≤ a.toInt ∧ a.toInt ≤ 1000000000))) := by
  have hz : (0 : Int32).toInt = 0 := rfl
  have h1 : (1 : Int32).toInt = 1 := rfl
  have h2 : (2 : Int32).toInt = 2 := rfl
  have h9 : (1000000000 : Int64).toInt = 1000000000 := rfl
  have l1 := lc_f a t.toInt64
  have l2 := lc_f a 1000000000
  have l3 := i2l t
  unfold md_A_event
  refine ok_lt (fun _ => ok_some (Or.inr ⟨rfl, by omega⟩)) (fun e1 => ok_lt (fun _ => ok_some (Or.inr ⟨rfl, by omega⟩)) (fun e2 => ok_lt (fun _ => ok_some (Or.inr ⟨rfl, by omega⟩)) (fun _ => ok_le (fun _ => ok_zl ?_) (fun _ => ok_some (Or.inr ⟨rfl, by omega⟩)))))
  refine ok_eq (fun e => ?_) (fun e => ok_zc (sf_isIn (by omega)) (fun o8 h8 => ok_eq (fun _ => ok_some (Or.inr ⟨rfl, by omega⟩)) (fun e2 => by exfalso; omega)))
  exact ok_eq (fun _ => by exfalso; omega) (fun _ => ok_eq (fun _ => by exfalso; omega) (fun _ => ok_zc (fr_startAll hj hN) (fun o7 h7 => ok_some (Or.inl ⟨h7, by omega⟩))))
theorem fr_eventB {N : Nat} {cd jobs sd a b cc9 : Int32} {now t : Int64} {f1 f2 many needs f3 f4 f5 f6 : Nat → Int32} {l1 l2 l3 : Nat → Int64} (hn : now.toInt = 0) (hj : jobs.toInt = 0) (hN : 4000 ≤ N) : ok (md_B_event N cd jobs now sd f1 f2 many needs f3 f4 l1 l2 f5 f6 l3 a b cc9 t) (fun o => (o.1.toInt = 0 ∧ b.toInt = 0 ∧ 0 ≤ t.toInt ∧ t.toInt ≤ 1000000000) ∨ (o.1.toInt = -1 ∧ ¬ (b.toInt = 0 ∧ 0 ≤ t.toInt ∧ t.toInt ≤ 1000000000))) := by
  have hz : (0 : Int32).toInt = 0 := rfl
  have h1 : (1 : Int32).toInt = 1 := rfl
  have h2 : (2 : Int32).toInt = 2 := rfl
  have h9 : (1000000000 : Int64).toInt = 1000000000 := rfl
  have l1 := lc_f t now
  have l2 := lc_f t 1000000000
  unfold md_B_event
  refine ok_lt (fun _ => ok_some (Or.inr ⟨rfl, by omega⟩)) (fun e1 => ok_lt (fun _ => ok_some (Or.inr ⟨rfl, by omega⟩)) (fun e2 => ok_lt (fun _ => ok_some (Or.inr ⟨rfl, by omega⟩)) (fun _ => ok_le (fun _ => ok_zl ?_) (fun _ => ok_some (Or.inr ⟨rfl, by omega⟩)))))
  refine ok_le (fun e => ?_) (fun e => ok_zc rf_isJob (fun o8 h8 => ok_eq (fun _ => ok_some (Or.inr ⟨rfl, by omega⟩)) (fun e2 => by exfalso; omega)))
  exact ok_eq (fun _ => by exfalso; omega) (fun _ => ok_eq (fun _ => by exfalso; omega) (fun _ => ok_zc (fr_begin hj hN) (fun o7 h7 => ok_some (Or.inl ⟨h7, by omega⟩))))
theorem fr_startedA {N : Nat} {st a b : Int32} {f1 f2 : Nat → Int32} (hs : st.toInt = 0) : ok (md_A_started N st f1 f2 a b) (fun o => o.toInt = -1) := by
  have hz : (0 : Int32).toInt = 0 := rfl
  unfold md_A_started
  exact ok_lt (fun _ => ok_some rfl) (fun _ => ok_lt (fun e => by exfalso; omega) (fun _ => ok_some rfl))
theorem fr_startedB {N : Nat} {cd sd a b : Int32} {f : Nat → Int32} {l : Nat → Int64} (hs : sd.toInt = 0) : ok (md_B_started N cd sd f l a b) (fun o => o.1.toInt = -1) := by
  have hz : (0 : Int32).toInt = 0 := rfl
  unfold md_B_started
  exact ok_lt (fun _ => ok_some rfl) (fun _ => ok_le (fun _ => ok_some rfl) (fun e => by exfalso; omega))
theorem fr_rerunA {N : Nat} {st t jobs a : Int32} {s1 s2 s3 s4 al nc : Nat → Int32} {g1 nd g3 : Nat → Nat → Int32} (hj : jobs.toInt = 0) : ok (md_A_rerun N st t s1 s2 s3 s4 jobs g1 nc nd g3 al a) (fun o => o.1.toInt = -1) := by
  have hz : (0 : Int32).toInt = 0 := rfl
  unfold md_A_rerun
  exact ok_zc sf_has (fun o1 h1 => ok_eq (fun _ => ok_some rfl) (fun e => by exfalso; omega))
theorem fr_rerunB {N : Nat} {cd jobs sd a : Int32} {now : Int64} {f1 f2 f3 f4 f5 f6 f7 f8 : Nat → Int32} {l1 l2 : Nat → Int64} (hj : jobs.toInt = 0) : ok (md_B_rerun N cd jobs now sd f1 f2 f3 f4 f5 f6 l1 f7 l2 f8 a) (fun o => o.1.toInt = -1) := by
  have hz : (0 : Int32).toInt = 0 := rfl
  unfold md_B_rerun
  exact ok_zc rf_isJob (fun o1 h1 => ok_eq (fun _ => ok_some rfl) (fun e => by exfalso; omega))
theorem fr_longestEnd {N : Nat} {jobs : Int32} {f1 f2 : Nat → Int32} (h : jobs.toInt = 0) (hN : 4000 ≤ N) : ok (md_Lon_longestEnd N f1 jobs f2) (fun o => o.toInt = 0) := by
  unfold md_Lon_longestEnd
  refine ok_fx2 (fun x y => x.toInt = 1 ∧ y.toInt = 0) (fun _ _ => 0) ?_ _ _ _ ⟨rfl, rfl⟩ (by omega)
  intro rec x y hI ih
  unfold md_Lon_longestEnd_F5
  exact ok_lt (fun _ => ok_some hI.2) (fun e => by exfalso; omega)
theorem fr_trace {N : Nat} {len a : Int32} {f1 bf : Nat → Int32} (ha : a.toInt = 0) (hN : 4000 ≤ N) : ok (md_Way_trace N len f1 bf a) (fun o => o.1.toInt = 0) := by
  have hz : (0 : Int32).toInt = 0 := rfl
  have h1 : (1 : Int32).toInt = 1 := rfl
  unfold md_Way_trace
  refine ok_fx2 (fun x y => x.toInt = 0 ∧ y.toInt = 0) (fun _ _ => 0) ?_ _ _ _ ⟨ha, rfl⟩ (by omega)
  intro rec x y hI ih
  have es := i_sub y 1
  unfold md_Way_trace_F7
  refine ok_zl (ok_le (fun _ => ?_) (fun e => by exfalso; omega))
  refine ok_fx3 (fun u _ _ => u.toInt = -1) (fun _ _ _ => 0) ?_ _ _ _ _ (by omega) (by omega)
  intro rec3 u v f hI3 ih3
  unfold md_Way_trace_F47
  exact ok_lt (fun _ => ok_some hI.2) (fun e => by exfalso; omega)
theorem fr_lonFind {N : Nat} {len jobs : Int32} {f1 bf row nc f3 st : Nat → Int32} {g1 nd : Nat → Nat → Int32} (hj : jobs.toInt = 0) (hN : 4000 ≤ N) : ok (md_Lon_find N f1 bf len row jobs g1 nc nd f3 st) (fun o => o.2.2.1.toInt = 0) := by
  have h1 : (1 : Int32).toInt = 1 := rfl
  have h26 : (26 : Int32).toInt = 26 := rfl
  unfold md_Lon_find
  refine ok_fx3 (fun x _ _ => 0 ≤ x.toInt ∧ x.toInt ≤ 26) (fun x _ _ => (26 - x.toInt).toNat) ?_ _ _ _ _ (by decide) (show (26 : Nat) < N by omega)
  intro rec x k1 k2 hI ih
  have e1 := i_add x 1
  unfold md_Lon_find_F2
  refine ok_le (fun _ => ok_zc (fr_longestEnd hj hN) (fun o ho => ok_zc (fr_trace ho hN) (fun o2 h2 => ok_some h2))) (fun _ => ?_)
  refine ok_fx3 (fun u _ _ => u.toInt = 1) (fun _ _ _ => 0) ?_ _ _ _ _ rfl (by omega)
  intro rec3 u k3 k4 hI3 ih3
  unfold md_Lon_find_F11
  exact ok_lt (fun _ => ih _ _ _ (by omega) (by omega)) (fun e => by exfalso; omega)
theorem fr_critA {N : Nat} {len jobs a : Int32} {f1 bf row nc f3 st : Nat → Int32} {g1 nd : Nat → Nat → Int32} (hj : jobs.toInt = 0) (hN : 4000 ≤ N) : ok (md_A_critical N st f1 bf len row jobs g1 nc nd f3 a) (fun o => o.1.toInt = 0) := by
  have hz : (0 : Int32).toInt = 0 := rfl
  unfold md_A_critical md_Way_jobAt
  exact ok_zc (fr_lonFind hj hN) (fun o1 h1 => ok_zc (Q := fun o => o.toInt = 0) (ok_lt (fun _ => ok_some hz) (fun _ => ok_le (fun _ => ok_some hz) (fun e => by exfalso; omega))) (fun o2 h2 => ok_some h2))
theorem fr_critB {N : Nat} {cd jobs a : Int32} {f1 f2 f3 f4 f5 f6 : Nat → Int32} {l1 : Nat → Int64} (hj : jobs.toInt = 0) (hN : 4000 ≤ N) : ok (md_B_critical N cd jobs f1 f2 f3 f4 l1 f5 f6 a) (fun o => o.1.toInt = 0) := by
  have hz : (0 : Int32).toInt = 0 := rfl
  have h1 : (1 : Int32).toInt = 1 := rfl
  have h26 : (26 : Int32).toInt = 26 := rfl
  unfold md_B_critical
  refine ok_fx3 (fun x _ _ => 0 ≤ x.toInt ∧ x.toInt ≤ 27) (fun x _ _ => (27 - x.toInt).toNat) ?_ _ _ _ _ (by decide) (show (27 : Nat) < N by omega)
  intro rec x k1 k2 hI ih
  have e1 := i_add x 1
  unfold md_B_critical_F7
  refine ok_lt (fun _ => ?_) (fun _ => ok_in (by omega) (ok_zl (ok_in (by omega) (ok_zl (ih _ _ _ (by omega) (by omega))))))
  refine ok_fx3 (fun u _ _ => u.toInt = 0) (fun _ _ _ => 0) ?_ _ _ _ _ rfl (by omega)
  intro rec3 u k3 k4 hI3 ih3
  unfold md_B_critical_F37
  refine ok_le (fun _ => ?_) (fun e => by exfalso; omega)
  refine ok_fx2 (fun u v => u.toInt = 1 ∧ v.toInt = 0) (fun _ _ => 0) ?_ _ _ _ ⟨rfl, rfl⟩ (by omega)
  intro rec4 u5 v5 hI4 ih4
  unfold md_B_critical_F280
  refine ok_lt (fun _ => ?_) (fun e => by exfalso; omega)
  refine ok_fx3 (fun u v _ => u.toInt = 0 ∧ v.toInt = 0) (fun _ _ _ => 0) ?_ _ _ _ _ ⟨hI4.2, rfl⟩ (by omega)
  intro rec5 u6 v6 k6 hI5 ih5
  unfold md_B_critical_F334
  exact ok_eq (fun _ => ok_lt (fun _ => ok_some rfl) (fun _ => ok_le (fun _ => ok_some rfl) (fun e => by exfalso; omega))) (fun e => by exfalso; omega)
theorem fr_meanA {N : Nat} {jobs a b : Int32} {l : Nat → Int64} {f : Nat → Int32} (hj : jobs.toInt = 0) : ok (md_A_mean N l f jobs a b) (fun o => o.toInt = -1) := by
  have hz : (0 : Int32).toInt = 0 := rfl
  unfold md_A_mean
  exact ok_zc sf_has (fun o1 h1 => ok_eq (fun _ => ok_some rfl) (fun e => by exfalso; omega))
theorem fr_meanB {N : Nat} {cd jobs a b : Int32} {l : Nat → Int64} {f : Nat → Int32} (hj : jobs.toInt = 0) : ok (md_B_mean N cd jobs l f a b) (fun o => o.1.toInt = -1 ∧ o.2 = 0) := by
  have hz : (0 : Int32).toInt = 0 := rfl
  unfold md_B_mean
  refine ok_zc rf_isJob (fun o1 h1 => ok_zl (ok_zl (ok_eq (fun _ => ?_) (fun e => by exfalso; omega))))
  exact ⟨_, rfl, rfl, rfl⟩
theorem fr_lateA {N : Nat} {jobs b : Int32} {t : Int64} {s1 s2 kc : Nat → Int32} {ks : Nat → Int64} {g : Nat → Nat → Int32} (hj : jobs.toInt = 0) (hN : 4000 ≤ N) : ok (md_A_late N s1 s2 ks kc jobs g t b) (fun o => o.toInt = 0) := by
  unfold md_A_late
  refine ok_fx2 (fun x _ => x.toInt = 1) (fun _ _ => 0) ?_ _ _ _ rfl (by omega)
  intro rec x y hI ih
  unfold md_A_late_F6
  exact ok_lt (fun _ => ok_some rfl) (fun e => by exfalso; omega)
theorem fr_lateB {N : Nat} {cd jobs b : Int32} {t : Int64} {f1 f2 f3 kp : Nat → Int32} {l1 l2 : Nat → Int64} (hj : jobs.toInt = 0) (hN : 4000 ≤ N) : ok (md_B_late N cd jobs f1 f2 f3 l1 l2 kp t b) (fun o => o.1.toInt = 0) := by
  unfold md_B_late
  refine ok_fx2 (fun x _ => x.toInt = 1) (fun _ _ => 0) ?_ _ _ _ rfl (by omega)
  intro rec x y hI ih
  unfold md_B_late_F11
  exact ok_lt (fun _ => ok_some rfl) (fun e => by exfalso; omega)
theorem fr_stateA {N : Nat} {jobs a : Int32} {f : Nat → Int32} (hj : jobs.toInt = 0) : ok (md_A_state N f jobs a) (fun o => o.toInt = -1) := by
  have hz : (0 : Int32).toInt = 0 := rfl
  unfold md_A_state
  exact ok_zc sf_has (fun o1 h1 => ok_eq (fun _ => ok_some rfl) (fun e => by exfalso; omega))
theorem fr_stateB {N : Nat} {cd jobs a : Int32} {f : Nat → Int32} (hj : jobs.toInt = 0) : ok (md_B_state N cd jobs f a) (fun o => o.1.toInt = -1) := by
  have hz : (0 : Int32).toInt = 0 := rfl
  unfold md_B_state
  exact ok_zc rf_isJob (fun o1 h1 => ok_eq (fun _ => ok_some rfl) (fun e => by exfalso; omega))
theorem fr_countA {N : Nat} {made hc st t len jobs a : Int32} {f : Nat → Int32} (hm : made.toInt = 1) (hh : hc.toInt = 0) (hs : st.toInt = 0) (ht : t.toInt = 0) (hl : len.toInt = 0) (hj : jobs.toInt = 0) (hN : 4000 ≤ N) : ok (md_A_count N made hc st t f len jobs a) (fun o => (a.toInt = 1 ∧ o.toInt = 1) ∨ (¬ a.toInt = 1 ∧ 0 ≤ a.toInt ∧ a.toInt ≤ 7 ∧ o.toInt = 0) ∨ (¬ (0 ≤ a.toInt ∧ a.toInt ≤ 7) ∧ o.toInt = -1)) := by
  unfold md_A_count
  repeat' (first | (refine ok_zc (fr_jobsIn hj hN) (fun _ _ => ?_)) | (refine ok_zc (fr_running hj hN) (fun _ _ => ?_)) | (exact ok_some (by first | omega | (simp only [i_add, i_sub, i_mul, l_add, l_sub, Int32.reduceToInt, Int64.reduceToInt, cl_n, true_or, or_true, true_and, and_true, and_self] at *; omega) | (simp only [i_add, i_sub, i_mul, l_add, l_sub, Int32.reduceToInt, Int64.reduceToInt, cl_n, true_or, or_true, true_and, and_true, and_self] at *; done))) | (refine ok_in (by first | omega | (simp only [i_add, i_sub, i_mul, l_add, l_sub, Int32.reduceToInt, Int64.reduceToInt, cl_n, true_or, or_true, true_and, and_true, and_self] at *; omega) | (simp only [i_add, i_sub, i_mul, l_add, l_sub, Int32.reduceToInt, Int64.reduceToInt, cl_n, true_or, or_true, true_and, and_true, and_self] at *; done)) ?_) | (refine ok_lt (fun _ => ?_) (fun _ => ?_)) | (refine ok_le (fun _ => ?_) (fun _ => ?_)) | (refine ok_eq (fun _ => ?_) (fun _ => ?_)) | (refine ok_ltL (fun _ => ?_) (fun _ => ?_)) | (refine ok_leL (fun _ => ?_) (fun _ => ?_)) | (refine ok_eqL (fun _ => ?_) (fun _ => ?_)) | (refine ok_zl ?_))
theorem fr_countB {N : Nat} {cd jobs made days sd rs a : Int32} {now : Int64} {f : Nat → Int32} (hm : made.toInt = 0) (hh : days.toInt = 0) (hs : sd.toInt = 0) (ht : now.toInt = 0) (hl : rs.toInt = 0) (hj : jobs.toInt = 0) (hN : 4000 ≤ N) : ok (md_B_count N cd jobs made days now sd rs f a) (fun o => (a.toInt = 1 ∧ o.1.toInt = 1) ∨ (¬ a.toInt = 1 ∧ 0 ≤ a.toInt ∧ a.toInt ≤ 7 ∧ o.1.toInt = 0) ∨ (¬ (0 ≤ a.toInt ∧ a.toInt ≤ 7) ∧ o.1.toInt = -1)) := by
  have e32 := l2i (a := now) (by omega)
  have h1 : (1 : Int32).toInt = 1 := rfl
  unfold md_B_count
  refine ok_fx3 (fun x y z => x.toInt = 1 ∧ y.toInt = 0 ∧ z.toInt = 0) (fun _ _ _ => 0) ?_ _ _ _ _ ⟨rfl, rfl, rfl⟩ (by omega)
  intro rec x y z hI ih
  unfold md_B_count_F12
  refine ok_lt (fun _ => ?_) (fun e => by exfalso; omega)
  repeat' (first | (exact ok_some (by first | omega | (simp only [i_add, i_sub, i_mul, l_add, l_sub, Int32.reduceToInt, Int64.reduceToInt, cl_n, true_or, or_true, true_and, and_true, and_self] at *; omega) | (simp only [i_add, i_sub, i_mul, l_add, l_sub, Int32.reduceToInt, Int64.reduceToInt, cl_n, true_or, or_true, true_and, and_true, and_self] at *; done))) | (refine ok_in (by first | omega | (simp only [i_add, i_sub, i_mul, l_add, l_sub, Int32.reduceToInt, Int64.reduceToInt, cl_n, true_or, or_true, true_and, and_true, and_self] at *; omega) | (simp only [i_add, i_sub, i_mul, l_add, l_sub, Int32.reduceToInt, Int64.reduceToInt, cl_n, true_or, or_true, true_and, and_true, and_self] at *; done)) ?_) | (refine ok_lt (fun _ => ?_) (fun _ => ?_)) | (refine ok_le (fun _ => ?_) (fun _ => ?_)) | (refine ok_eq (fun _ => ?_) (fun _ => ?_)) | (refine ok_ltL (fun _ => ?_) (fun _ => ?_)) | (refine ok_leL (fun _ => ?_) (fun _ => ?_)) | (refine ok_eqL (fun _ => ?_) (fun _ => ?_)) | (refine ok_zl ?_))
