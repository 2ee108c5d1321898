-- 66.crit: the reference's critical: its way back ends
def cu (w : Nat → Int64) : Nat → Nat
  | 0 => 0
  | n + 1 => cu w n + if (w (n + 1)).toInt = -1 then 0 else 1
theorem cu_le (f : Nat → Int64) : ∀ n, cu f n ≤ n := by
  intro n
  induction n with
  | zero => exact Nat.le_refl _
  | succ n ih => unfold cu; split <;> omega
theorem cu_upd_ge {f : Nat → Int64} {i : Nat} {v : Int64} : ∀ n, n < i → cu (vp_updL f i v) n = cu f n := by
  intro n
  induction n with
  | zero => intro _; rfl
  | succ n ih =>
    intro h
    unfold cu
    rw [ih (by omega), pk_uLn (by omega)]
theorem cu_upd {f : Nat → Int64} {i : Nat} {v : Int64} (h1 : 1 ≤ i) (hf : (f i).toInt = -1) (hv : v.toInt ≠ -1) : ∀ n, i ≤ n → cu (vp_updL f i v) n = cu f n + 1 := by
  intro n
  induction n with
  | zero => intro h; omega
  | succ n ih =>
    intro h
    unfold cu
    by_cases e : i = n + 1
    · subst e
      rw [cu_upd_ge n (by omega), pk_uLs, if_pos hf, if_neg hv]
    · rw [pk_uLn (fun q => e q.symm), ih (by omega)]
      omega
-- the jobs that are measured, by the order in which they were
def wr (w : Nat → Int64) (bf : Nat → Int32) (r : Nat → Nat) : Prop :=
  (∀ j, r j ≤ 25) ∧ ∀ j, j < 27 → 0 ≤ (bf j).toInt ∧ (bf j).toInt ≤ 26 ∧ ((w j).toInt = -1 ∨ (0 ≤ (w j).toInt ∧ (w j).toInt ≤ 1000000 * ((r j : Int) + 1) ∧ (1 ≤ j → r j < cu w 26))) ∧ ((bf j).toInt ≠ 0 → (w j).toInt ≠ -1 ∧ (w (bf j).toInt.toNat).toInt ≠ -1 ∧ r (bf j).toInt.toNat < r j)
theorem rf_crit {N : Nat} {cd jobs a : Int32} {es many needs st bf pth : Nat → Int32} {w : Nat → Int64} (hj : 0 ≤ jobs.toInt ∧ jobs.toInt ≤ 26) (hb : nb jobs many needs) (he : rg es 27 0 999999) (hN : 4000 ≤ N) : ok (md_B_critical N cd jobs es many needs st w bf pth a) (fun _ => True) := by
  have hz : (0 : Int32).toInt = 0 := rfl
  have hz1 : (1 : Int32).toInt = 1 := rfl
  have hz26 : (26 : Int32).toInt = 26 := rfl
  have hlz : (0 : Int64).toInt = 0 := rfl
  have hlm : (-1 : Int64).toInt = -1 := rfl
  have hp : ∀ x : Int32, 0 ≤ x.toInt → x.toInt ≤ 1000 → (x + 1).toInt = x.toInt + 1 := fun x q1 q2 => by first | omega | (simp only [i_add, i_sub, i_mul, l_add, l_sub, Int32.reduceToInt, Int64.reduceToInt, cl_n, true_or, or_true, true_and, and_true, and_self] at *; omega) | (simp only [i_add, i_sub, i_mul, l_add, l_sub, Int32.reduceToInt, Int64.reduceToInt, cl_n, true_or, or_true, true_and, and_true, and_self] at *; done)
  -- the way back
  have hA : ∀ (w : Nat → Int64) (bf : Nat → Int32) (r : Nat → Nat) (x : Int32), wr w bf r → 0 ≤ x.toInt → x.toInt ≤ 26 → ok (fx3 (md_B_critical_F334 a w bf) N x (0 : Int32) pth) (fun _ => True) := by
    intro w bf r x hw hx1 hx2
    refine ok_fx3 (fun x y _ => 0 ≤ x.toInt ∧ x.toInt ≤ 26 ∧ 0 ≤ y.toInt ∧ y.toInt ≤ 26 ∧ (x.toInt ≠ 0 → y.toInt + (r x.toInt.toNat : Int) ≤ 25)) (fun x _ _ => if x.toInt = 0 then 0 else r x.toInt.toNat + 1) ?_ _ _ _ _ ⟨hx1, hx2, by omega, by omega, fun _ => by have := hw.1 x.toInt.toNat; omega⟩ (by have := hw.1 x.toInt.toNat; split <;> omega)
    intro rec x y f hI ih
    unfold md_B_critical_F334
    refine ok_eq (fun _ => ok_lt (fun _ => ok_some trivial) (fun _ => ok_le (fun _ => ok_some trivial) (fun _ => ok_in (by first | omega | (simp only [i_add, i_sub, i_mul, l_add, l_sub, Int32.reduceToInt, Int64.reduceToInt, cl_n, true_or, or_true, true_and, and_true, and_self] at *; omega) | (simp only [i_add, i_sub, i_mul, l_add, l_sub, Int32.reduceToInt, Int64.reduceToInt, cl_n, true_or, or_true, true_and, and_true, and_self] at *; done)) (ok_some trivial)))) (fun hx0 => ?_)
    have hxn : ¬ x.toInt = 0 := fun z => hx0 (z.trans hz.symm)
    have h5 := hI.2.2.2.2 hxn
    have hy := hp y (by omega) (by omega)
    have hq := (hw.2 x.toInt.toNat (by omega))
    have hc := cl_n x
    refine ok_in (by omega) (ok_zl (ok_in (by omega) (ih _ _ _ ⟨?_, ?_, by omega, by omega, fun hb0 => ?_⟩ ?_)))
    · rw [hc]; exact hq.1
    · rw [hc]; exact hq.2.1
    · rw [hc] at hb0 ⊢
      have := (hq.2.2.2 hb0).2.2
      omega
    · rw [if_neg hxn, hc]
      by_cases hb0 : (bf x.toInt.toNat).toInt = 0
      · rw [if_pos hb0]; omega
      · rw [if_neg hb0]
        have := (hq.2.2.2 hb0).2.2
        omega
  -- the last job
  have hC : ∀ (w : Nat → Int64) (bf : Nat → Int32) (r : Nat → Nat), wr w bf r → ok (fx2 (md_B_critical_F280 jobs st pth a N w bf) N (1 : Int32) (0 : Int32)) (fun _ => True) := by
    intro w bf r hw
    refine ok_fx2 (fun x y => 1 ≤ x.toInt ∧ x.toInt ≤ 27 ∧ 0 ≤ y.toInt ∧ y.toInt ≤ 26) (fun x _ => (27 - x.toInt).toNat) ?_ _ _ _ (by omega) (by omega)
    intro rec x y hI ih
    unfold md_B_critical_F280
    refine ok_lt (fun _ => hA w bf r y hw (by omega) (by omega)) (fun _ => ?_)
    have hx := hp x (by omega) (by omega)
    exact ok_in (by omega) (ok_eq (fun _ => ih _ _ (by omega) (by omega)) (fun _ => ok_eq (fun _ => ih _ _ (by omega) (by omega)) (fun _ => ok_in (by omega) (ok_in (by omega) (ok_le (fun _ => ih _ _ (by omega) (by omega)) (fun _ => ih _ _ (by omega) (by omega)))))))
  -- a job's measure
  have hM : ∀ (w : Nat → Int64) (bf : Nat → Int32) (r : Nat → Nat) (x : Int32) (rec : Int32 → (Nat → Int64) → (Nat → Int32) → Option (Int32 × Int32 × (Nat → Int64) × (Nat → Int32) × (Nat → Int32))), wr w bf r → 1 ≤ x.toInt → x.toInt ≤ jobs.toInt → (w x.toNatClampNeg).toInt = -1 → (∀ w' bf' r', wr w' bf' r' → ok (rec (x + 1) w' bf') (fun _ => True)) → ok (fx3 (md_B_critical_F89 es many needs st x w bf rec) N (0 : Int32) (0 : Int32) (1 : Int32)) (fun _ => True) := by
    intro w bf r x rec hw hx1 hx2 hwx hrec
    have hm := nb_m hb (a := x) hx1 hx2
    have hcx := cl_n x
    have hex := rg_at he (x := x) (by omega) (by omega)
    refine ok_fx3 (fun k b q => 0 ≤ k.toInt ∧ k.toInt ≤ 20 ∧ 0 ≤ b.toInt ∧ b.toInt ≤ 26 ∧ (q.toInt ≠ 0 → b.toInt ≠ 0 → (w b.toInt.toNat).toInt ≠ -1)) (fun k _ _ => (20 - k.toInt).toNat) ?_ _ _ _ _ ⟨by omega, by omega, by omega, by omega, fun _ h => absurd hz h⟩ (by omega)
    intro rec9 k b q hI ih
    unfold md_B_critical_F89
    refine ok_in (by omega) (ok_le (fun _ => ok_eq (fun _ => hrec _ _ r hw) (fun hq0 => ?_)) (fun _ => ?_))
    · -- the measure is laid down
      have hqn : q.toInt ≠ 0 := fun z => hq0 (z.trans hz.symm)
      have hlay : ∀ (v : Int64) (s : Int), v.toInt = (es x.toNatClampNeg).toInt + s → 0 ≤ s → (b.toInt = 0 → s = 0) → (b.toInt ≠ 0 → s ≤ 1000000 * ((r b.toInt.toNat : Int) + 1)) → ok (rec (x + 1) (vp_updL w x.toNatClampNeg v) (upd bf x.toNatClampNeg b)) (fun _ => True) := by
        intro v s hv hs0 hsz hsb
        have hcu := cu_upd (f := w) (i := x.toNatClampNeg) (v := v) (by omega) hwx (by omega) 26 (by omega)
        have hcl := cu_le (vp_updL w x.toNatClampNeg v) 26
        have hbk : b.toInt ≠ 0 → (w b.toInt.toNat).toInt ≠ -1 ∧ r b.toInt.toNat < cu w 26 ∧ b.toInt.toNat ≠ x.toNatClampNeg := by
          intro hb0
          have h9 := hI.2.2.2.2 hqn hb0
          have h8 := (hw.2 b.toInt.toNat (by omega)).2.2.1
          refine ⟨h9, ?_, fun e => h9 (by rw [e]; exact hwx)⟩
          rcases h8 with h8 | h8
          · exact absurd h8 h9
          · exact h8.2.2 (by omega)
        obtain ⟨rn, hr1, hr2⟩ : ∃ rn : Nat → Nat, rn x.toNatClampNeg = cu w 26 ∧ ∀ j, j ≠ x.toNatClampNeg → rn j = r j := ⟨fun j => if j = x.toNatClampNeg then cu w 26 else r j, if_pos rfl, fun j h => if_neg h⟩
        refine hrec _ _ rn ⟨fun j => ?_, fun j hj9 => ?_⟩
        · by_cases e : j = x.toNatClampNeg
          · subst e; omega
          · rw [hr2 j e]; exact hw.1 j
        · by_cases e : j = x.toNatClampNeg
          · subst e
            rw [pk_us, pk_uLs, hr1]
            refine ⟨by omega, by omega, Or.inr ⟨by omega, ?_, fun _ => by omega⟩, fun hb0 => ⟨by omega, ?_, ?_⟩⟩
            · by_cases hb0 : b.toInt = 0
              · have := hsz hb0; omega
              · have h7 := hsb hb0
                have h6 := (hbk hb0).2.1
                omega
            · rw [pk_uLn (hbk hb0).2.2]; exact (hbk hb0).1
            · rw [hr2 _ (hbk hb0).2.2]; exact (hbk hb0).2.1
          · have hq9 := hw.2 j hj9
            rw [pk_un e, pk_uLn e, hr2 j e]
            refine ⟨hq9.1, hq9.2.1, ?_, fun hb0 => ?_⟩
            · rcases hq9.2.2.1 with h | h
              · exact Or.inl h
              · exact Or.inr ⟨h.1, h.2.1, fun h1 => by have := h.2.2 h1; omega⟩
            · have h9 := hq9.2.2.2 hb0
              have e2 : (bf j).toInt.toNat ≠ x.toNatClampNeg := fun e2 => h9.2.1 (by rw [e2]; exact hwx)
              rw [hr2 _ e2, pk_uLn e2]
              exact h9
      have hes := i2l (es x.toNatClampNeg)
      refine ok_in (by omega) (ok_zl (ok_in (by omega) (ok_eq (fun hb0 => ok_in (by omega) (ok_zl (hlay _ 0 ?_ (by omega) (fun _ => rfl) (fun h => absurd (hb0.trans hz) h)))) (fun hb0 => ok_in (by omega) (ok_in (by omega) (ok_zl (hlay _ (w b.toNatClampNeg).toInt ?_ ?_ (fun h => absurd (h.trans hz.symm) hb0) (fun h => ?_))))))))
      · rw [l_add, hes, hlz]; omega
      · have hbn : b.toInt ≠ 0 := fun z => hb0 (z.trans hz.symm)
        have h8 := (hw.2 b.toInt.toNat (by omega)).2.2.1
        have h9 := hI.2.2.2.2 hqn hbn
        have h7 := hw.1 b.toInt.toNat
        rw [l_add, hes, cl_n b]
        rcases h8 with h8 | h8
        · exact absurd h8 h9
        · omega
      · have hbn : b.toInt ≠ 0 := fun z => hb0 (z.trans hz.symm)
        have h8 := (hw.2 b.toInt.toNat (by omega)).2.2.1
        have h9 := hI.2.2.2.2 hqn hbn
        rw [cl_n b]
        rcases h8 with h8 | h8
        · exact absurd h8 h9
        · omega
      · have h8 := (hw.2 b.toInt.toNat (by omega)).2.2.1
        have h9 := hI.2.2.2.2 hqn h
        rw [cl_n b]
        rcases h8 with h8 | h8
        · exact absurd h8 h9
        · exact h8.2.1
    · have hk := hp k (by omega) (by omega)
      have hi := nb_i (a := x) (x := k) (by omega) (by omega) (by omega) (by omega)
      have hn := nb_n hb hj.2 (a := x) (x := k) (by omega) (by omega) (by omega) (by omega)
      refine ok_in (by omega) (ok_zl ?_)
      generalize needs (((20 : Int32) * (x - (1 : Int32))) + k).toNatClampNeg = nd at hn
      refine ok_in (by omega) (ok_eq (fun _ => ih _ _ _ ⟨by omega, by omega, hI.2.2⟩ (by omega)) (fun _ => ?_))
      have hK : ∀ z : Int32, (z.toInt ≠ 0 → q.toInt ≠ 0 ∧ (w nd.toInt.toNat).toInt ≠ -1) → ok (if b = 0 then rec9 (k + 1) nd z else if sg_in nd 27 = true then if sg_in b 27 = true then if 0 < lg_cmp (w nd.toNatClampNeg) (w b.toNatClampNeg) then rec9 (k + 1) nd z else if sg_in nd 27 = true then if sg_in b 27 = true then if lg_cmp (w nd.toNatClampNeg) (w b.toNatClampNeg) = 0 then if b ≤ nd then rec9 (k + 1) b z else rec9 (k + 1) nd z else rec9 (k + 1) b z else none else none else none else none) (fun _ => True) := by
        intro z hz9
        have g1 : ok (rec9 (k + 1) nd z) (fun _ => True) := ih _ _ _ ⟨by omega, by omega, by omega, by omega, fun h _ => (hz9 h).2⟩ (by omega)
        have g2 : ok (rec9 (k + 1) b z) (fun _ => True) := ih _ _ _ ⟨by omega, by omega, by omega, by omega, fun h h2 => hI.2.2.2.2 (hz9 h).1 h2⟩ (by omega)
        exact ok_eq (fun _ => g1) (fun _ => ok_in (by omega) (ok_in (by omega) (ok_lt (fun _ => g1) (fun _ => ok_in (by omega) (ok_in (by omega) (ok_eq (fun _ => ok_le (fun _ => g2) (fun _ => g1)) (fun _ => g2)))))))
      have hlc := lc_f (w nd.toNatClampNeg) (-1)
      have hcn := cl_n nd
      refine ok_zl (ok_zl (ok_eq (fun _ => hK _ (fun h => absurd hz h)) (fun hq0 => ok_in (by omega) (ok_eq (fun _ => hK _ (fun h => absurd hz h)) (fun hl0 => hK _ (fun _ => ⟨fun z => hq0 (z.trans hz.symm), ?_⟩))))))
      rw [← hcn]
      omega
  -- the rounds
  have hR : ∀ (w : Nat → Int64) (bf : Nat → Int32) (r : Nat → Nat), wr w bf r → ok (fx3 (md_B_critical_F37 jobs es many needs st pth a N) N (0 : Int32) w bf) (fun _ => True) := by
    intro w bf r hw
    refine ok_fx3 (fun x w bf => 0 ≤ x.toInt ∧ x.toInt ≤ 26 ∧ ∃ r, wr w bf r) (fun x _ _ => (26 - x.toInt).toNat) ?_ _ _ _ _ ⟨by omega, by omega, r, hw⟩ (by omega)
    intro rec x w bf hI ih
    obtain ⟨hx1, hx2, r, hw⟩ := hI
    unfold md_B_critical_F37
    refine ok_le (fun _ => hC w bf r hw) (fun _ => ?_)
    have hx := hp x (by omega) (by omega)
    refine ok_fx3 (fun u w bf => 1 ≤ u.toInt ∧ u.toInt ≤ 27 ∧ ∃ r, wr w bf r) (fun u _ _ => (27 - u.toInt).toNat) ?_ _ _ _ _ ⟨by omega, by omega, r, hw⟩ (by omega)
    intro rec2 u w2 bf2 hI2 ih2
    obtain ⟨hu1, hu2, r2, hw2⟩ := hI2
    unfold md_B_critical_F47
    refine ok_lt (fun _ => ih _ _ _ ⟨by omega, by omega, r2, hw2⟩ (by omega)) (fun _ => ?_)
    have hu := hp u (by omega) (by omega)
    have hg : ∀ w' bf' r', wr w' bf' r' → ok (rec2 (u + 1) w' bf') (fun _ => True) := fun w' bf' r' h' => ih2 _ _ _ ⟨by omega, by omega, r', h'⟩ (by omega)
    have hlc := lc_f (w2 u.toNatClampNeg) (-1)
    refine ok_in (by omega) (ok_eq (fun h0 => ok_in (by omega) (ok_eq (fun _ => hg _ _ r2 hw2) (fun _ => hM w2 bf2 r2 u rec2 hw2 (by omega) (by omega) (by omega) hg))) (fun _ => hg _ _ r2 hw2))
  unfold md_B_critical
  refine ok_fx3 (fun x w bf => 0 ≤ x.toInt ∧ x.toInt ≤ 27 ∧ ∀ j : Nat, (j : Int) < x.toInt → (w j).toInt = -1 ∧ (bf j).toInt = 0) (fun x _ _ => (27 - x.toInt).toNat) ?_ _ _ _ _ ⟨by omega, by omega, fun j h => by omega⟩ (by omega)
  intro rec x w bf hI ih
  unfold md_B_critical_F7
  refine ok_lt (fun _ => hR w bf (fun _ => 0) ⟨fun _ => Nat.zero_le _, fun j hj9 => ?_⟩) (fun _ => ?_)
  · have h9 := hI.2.2 j (by omega)
    exact ⟨by omega, by omega, Or.inl h9.1, fun h => absurd h9.2 h⟩
  · have hx := hp x (by omega) (by omega)
    have hcx := cl_n x
    refine ok_in (by omega) (ok_zl (ok_in (by omega) (ok_zl (ih _ _ _ ⟨by omega, by omega, fun j hj9 => ?_⟩ (by omega)))))
    by_cases e : j = x.toNatClampNeg
    · subst e
      rw [pk_us, pk_uLs]
      exact ⟨hlm, hz⟩
    · rw [pk_un e, pk_uLn e]
      exact hI.2.2 j (by omega)
