-- 65.rerun: the reference's rerun and critical
def cz (f : Nat → Int32) : Nat → Nat
  | 0 => 0
  | n + 1 => cz f n + if (f (n + 1)).toInt = 0 then 1 else 0
theorem cz_le (f : Nat → Int32) : ∀ n, cz f n ≤ n := by
  intro n
  induction n with
  | zero => exact Nat.le_refl _
  | succ n ih => unfold cz; split <;> omega
theorem cz_upd_ge {f : Nat → Int32} {i : Nat} {v : Int32} : ∀ n, n < i → cz (upd f i v) n = cz f n := by
  intro n
  induction n with
  | zero => intro _; rfl
  | succ n ih =>
    intro h
    unfold cz
    rw [ih (by omega), pk_un (by omega)]
theorem cz_upd {f : Nat → Int32} {i : Nat} {v : Int32} (h1 : 1 ≤ i) (hf : (f i).toInt = 0) : ∀ n, i ≤ n → cz (upd f i v) n + (if v.toInt = 0 then 0 else 1) = cz f n := by
  intro n
  induction n with
  | zero => intro h; omega
  | succ n ih =>
    intro h
    unfold cz
    by_cases e : i = n + 1
    · subst e
      rw [cz_upd_ge n (by omega), pk_us, if_pos hf]
      split <;> omega
    · rw [pk_un (fun q => e q.symm)]
      have := ih (by omega)
      omega
theorem rf_rerun {N : Nat} {cd jobs sd a : Int32} {now : Int64} {f1 f2 many needs f3 st f4 ag : Nat → Int32} {l1 l2 : Nat → Int64} (hj : 0 ≤ jobs.toInt ∧ jobs.toInt ≤ 26) (hb : nb jobs many needs) {B : Int} (hs : 0 ≤ sd.toInt ∧ sd.toInt ≤ B) (hB : B ≤ 19900) (hN : 4000 ≤ N) : ok (md_B_rerun N cd jobs now sd f1 f2 many needs f3 st l1 f4 l2 ag a) (fun o => 0 ≤ o.2.2.1.toInt ∧ o.2.2.1.toInt ≤ B + 26) := by
  have hz : (0 : Int32).toInt = 0 := rfl
  have h1 : (1 : Int32).toInt = 1 := rfl
  have h26 : (26 : Int32).toInt = 26 := rfl
  have hp : ∀ x : Int32, 0 ≤ x.toInt → x.toInt ≤ 1000 → (x + 1).toInt = x.toInt + 1 := fun x q1 q2 => by first | omega | (simp only [i_add, i_sub, i_mul, l_add, l_sub, Int32.reduceToInt, Int64.reduceToInt, cl_n, true_or, or_true, true_and, and_true, and_self] at *; omega) | (simp only [i_add, i_sub, i_mul, l_add, l_sub, Int32.reduceToInt, Int64.reduceToInt, cl_n, true_or, or_true, true_and, and_true, and_self] at *; done)
  have hs2 : 0 ≤ sd.toInt ∧ sd.toInt ≤ B + 26 := by omega
  have hA : ∀ (g : Nat → Int32) (y : Int32), ok (fx2 (md_B_rerun_F272 jobs now sd f1 f2 many needs f3 l1 f4 l2 N g y) N (1 : Int32) st) (fun o => 0 ≤ o.2.2.1.toInt ∧ o.2.2.1.toInt ≤ B + 26) := by
    intro g y
    refine ok_fx2 (fun x _ => 1 ≤ x.toInt ∧ x.toInt ≤ 27) (fun x _ => (27 - x.toInt).toNat) ?_ _ _ _ (by omega) (by omega)
    intro rec x f hI ih
    unfold md_B_rerun_F272
    refine ok_lt (fun _ => ok_zc (rf_begin hj hb hs hB hN) (fun o ho => ok_some ho)) (fun _ => ?_)
    have hx := hp x (by omega) (by omega)
    have hr : ∀ f, ok (rec (x + 1) f) (fun o => 0 ≤ o.2.2.1.toInt ∧ o.2.2.1.toInt ≤ B + 26) := fun f => ih _ _ (by omega) (by omega)
    exact ok_in (by omega) (ok_eq (fun _ => ok_in (by omega) (ok_in (by omega) (ok_zl (hr _)))) (fun _ => ok_in (by omega) (ok_le (fun _ => ok_in (by omega) (ok_in (by omega) (ok_zl (hr _)))) (fun _ => ok_in (by omega) (ok_zl (hr _))))))
  have hC : ∀ (g : Nat → Int32), ok (fx3 (md_B_rerun_F175 jobs now sd f1 f2 many needs f3 st l1 f4 l2 N g) N (1 : Int32) (0 : Int32) (0 : Int32)) (fun o => 0 ≤ o.2.2.1.toInt ∧ o.2.2.1.toInt ≤ B + 26) := by
    intro g
    refine ok_fx3 (fun x _ _ => 1 ≤ x.toInt ∧ x.toInt ≤ 27) (fun x _ _ => (27 - x.toInt).toNat) ?_ _ _ _ _ (by omega) (by omega)
    intro rec x y z hI ih
    unfold md_B_rerun_F175
    refine ok_lt (fun _ => ok_eq (fun _ => hA _ _) (fun _ => ok_some hs2)) (fun _ => ?_)
    have hx := hp x (by omega) (by omega)
    have hr : ∀ y z, ok (rec (x + 1) y z) (fun o => 0 ≤ o.2.2.1.toInt ∧ o.2.2.1.toInt ≤ B + 26) := fun y z => ih _ _ _ (by omega) (by omega)
    exact ok_zl (ok_zl (ok_eq (fun _ => ok_in (by omega) (ok_zl (ok_eq (fun _ => ok_in (by omega) (ok_eq (fun _ => hr _ _) (fun _ => ok_in (by omega) (ok_eq (fun _ => hr _ _) (fun _ => ok_in (by omega) (ok_eq (fun _ => hr _ _) (fun _ => hr _ _))))))) (fun _ => ok_in (by omega) (ok_eq (fun _ => ok_in (by omega) (ok_eq (fun _ => hr _ _) (fun _ => ok_in (by omega) (ok_eq (fun _ => hr _ _) (fun _ => ok_in (by omega) (ok_eq (fun _ => hr _ _) (fun _ => hr _ _))))))) (fun _ => ok_in (by omega) (ok_eq (fun _ => hr _ _) (fun _ => ok_in (by omega) (ok_eq (fun _ => hr _ _) (fun _ => ok_in (by omega) (ok_eq (fun _ => hr _ _) (fun _ => hr _ _)))))))))))) (fun _ => ok_in (by omega) (ok_eq (fun _ => hr _ _) (fun _ => ok_in (by omega) (ok_eq (fun _ => hr _ _) (fun _ => ok_in (by omega) (ok_eq (fun _ => hr _ _) (fun _ => hr _ _)))))))))
  have hE : ∀ g : Nat → Int32, ok (fx2 (md_B_rerun_F69 jobs now sd f1 f2 many needs f3 st l1 f4 l2 N) N (1 : Int32) g) (fun o => 0 ≤ o.2.2.1.toInt ∧ o.2.2.1.toInt ≤ B + 26) := by
    intro g
    refine ok_fx2 (fun _ _ => True) (fun x f => 2 * cz f jobs.toInt.toNat + if x.toInt = 0 then 0 else 1) ?_ _ _ _ trivial (by have := cz_le g jobs.toInt.toNat; split <;> omega)
    intro rec x f _ ih
    unfold md_B_rerun_F69
    refine ok_eq (fun _ => hC _) (fun hx0 => ?_)
    refine ok_fx3 (fun u y q => 1 ≤ u.toInt ∧ u.toInt ≤ 27 ∧ cz q jobs.toInt.toNat + (if y.toInt = 0 then 0 else 1) ≤ cz f jobs.toInt.toNat) (fun u _ _ => (27 - u.toInt).toNat) ?_ _ _ _ _ ⟨by omega, by omega, by rw [if_pos hz]; omega⟩ (by omega)
    intro rec2 u y q hI2 ih2
    unfold md_B_rerun_F77
    refine ok_lt (fun _ => ih _ _ trivial ?_) (fun _ => ?_)
    · have hxn : ¬ x.toInt = 0 := fun z => hx0 (z.trans hz.symm)
      rw [if_neg hxn]
      have h9 := hI2.2.2
      by_cases hy : y.toInt = 0
      · rw [if_pos hy] at h9 ⊢
        omega
      · rw [if_neg hy] at h9 ⊢
        omega
    have hu := hp u (by omega) (by omega)
    have hm := nb_m hb (a := u) (by omega) (by omega)
    refine ok_fx3 (fun v y q => 0 ≤ v.toInt ∧ v.toInt ≤ 20 ∧ cz q jobs.toInt.toNat + (if y.toInt = 0 then 0 else 1) ≤ cz f jobs.toInt.toNat) (fun v _ _ => (20 - v.toInt).toNat) ?_ _ _ _ _ ⟨by omega, by omega, hI2.2.2⟩ (by omega)
    intro rec3 v y3 q3 hI3 ih3
    unfold md_B_rerun_F88
    have hE2 : ok (rec2 (u + 1) y3 q3) (fun o => 0 ≤ o.2.2.1.toInt ∧ o.2.2.1.toInt ≤ B + 26) := ih2 _ _ _ ⟨by omega, by omega, hI3.2.2⟩ (by omega)
    refine ok_in (by omega) (ok_le (fun _ => hE2) (fun _ => ok_in (by omega) (ok_eq (fun hq0 => ?_) (fun _ => hE2))))
    have hv := hp v (by omega) (by omega)
    have hi := nb_i (a := u) (x := v) (by omega) (by omega) (by omega) (by omega)
    have hn := nb_n hb hj.2 (a := u) (x := v) (by omega) (by omega) (by omega) (by omega)
    refine ok_in (by omega) (ok_in (by omega) (ok_in (by omega) (ok_zl ?_)))
    generalize vp_nar .boolean (q3 (needs ((20 : Int32) * (u - (1 : Int32)) + v).toNatClampNeg).toNatClampNeg) = w
    have hc := cz_upd (f := q3) (i := u.toNatClampNeg) (v := w) (by rw [cl_n]; omega) (hq0.trans hz) jobs.toInt.toNat (by rw [cl_n]; omega)
    have hw : upd q3 u.toNatClampNeg w u.toNatClampNeg = w := pk_us
    have hI4 := hI3.2.2
    refine ok_eq (fun hy => ok_in (by omega) ?_) (fun hy => ih3 _ _ _ ⟨by omega, by omega, ?_⟩ (by omega))
    · rw [hw]
      rw [if_pos (hy.trans hz)] at hI4
      refine ok_eq (fun hw0 => ih3 _ _ _ ⟨by omega, by omega, ?_⟩ (by omega)) (fun hw0 => ih3 _ _ _ ⟨by omega, by omega, ?_⟩ (by omega))
      · rw [if_pos (hw0.trans hz)] at hc
        rw [if_pos hz]
        omega
      · rw [if_neg (fun z => hw0 (z.trans hz.symm))] at hc
        rw [if_neg (by omega)]
        omega
    · rw [if_neg (by omega)]
      rw [if_neg (fun z => hy (z.trans hz.symm))] at hI4
      split at hc <;> omega
  have hF : ok (fx2 (md_B_rerun_F39 jobs now sd f1 f2 many needs f3 st l1 f4 l2 a N) N (0 : Int32) ag) (fun o => 0 ≤ o.2.2.1.toInt ∧ o.2.2.1.toInt ≤ B + 26) := by
    refine ok_fx2 (fun x _ => 0 ≤ x.toInt ∧ x.toInt ≤ 27) (fun x _ => (27 - x.toInt).toNat) ?_ _ _ _ (by omega) (by omega)
    intro rec x f hI ih
    unfold md_B_rerun_F39
    refine ok_lt (fun _ => hE _) (fun _ => ?_)
    have hx := hp x (by omega) (by omega)
    exact ok_eq (fun _ => ok_in (by omega) (ok_zl (ih _ _ (by omega) (by omega)))) (fun _ => ok_in (by omega) (ok_zl (ih _ _ (by omega) (by omega))))
  unfold md_B_rerun
  refine ok_zc rf_isJob (fun o ho => ok_eq (fun _ => ok_some hs2) (fun _ => ?_))
  exact ok_in (by omega) (ok_zl (ok_eq (fun _ => hF) (fun _ => ok_in (by omega) (ok_eq (fun _ => hF) (fun _ => ok_some hs2)))))
