-- 78.parse: the class reads the whole text
def WF (T : Nat → Int) (n J : Nat) (cn : Nat → Nat) (pl : Nat → Nat → Nat) : Prop := J ≤ 26 ∧ ∀ j, 1 ≤ j → j ≤ J → cn j ≤ 20 ∧ ∀ k, k < cn j → pl j k < n ∧ 97 ≤ T (pl j k) ∧ T (pl j k) ≤ 122
def FM (T : Nat → Int) (J : Nat) (nm : Nat → Int) (cn : Nat → Nat) (pl : Nat → Nat → Nat) (p : Nat) : Prop := ∀ j k, 1 ≤ j → j ≤ J → k < cn j → bs cn (j - 1) + k < p → tg nm J (T (pl j k)) ≠ 0
def NF (T : Nat → Int) (J : Nat) (nm : Nat → Int) (cn : Nat → Nat) (pl : Nat → Nat → Nat) (nc : Nat → Int32) (nd : Nat → Nat → Int32) : Prop := ∀ j, 1 ≤ j → j ≤ J → (nc j).toInt = (cn j : Int) ∧ ∀ k, k < cn j → (nd j k).toInt = (tg nm J (T (pl j k)) : Int)
theorem wf_bs {T : Nat → Int} {n J : Nat} {cn : Nat → Nat} {pl : Nat → Nat → Nat} (h : WF T n J cn pl) : bs cn J ≤ 520 := by
  have h1 := bs_le (cn := cn) J (fun j q1 q2 => (h.2 j q1 q2).1)
  have h2 := h.1
  omega
theorem tf_add {N n J : Nat} {pd at0 jobs : Int32} {t jol ow np cnd nc0 al0 : Nat → Int32} {nd0 g0 : Nat → Nat → Int32} {nm : Nat → Int} {cn : Nat → Nat} {pl : Nat → Nat → Nat} (hn : n ≤ 2000) (hW : WF (tx t) n J cn pl) (hpd : pd.toInt = (bs cn J : Int)) (hjb : jobs.toInt = (J : Int)) (hjol : ∀ l, l < 26 → (jol l).toInt = (tg nm J (97 + (l : Int)) : Int)) (how : ∀ j k, 1 ≤ j → j ≤ J → k < cn j → (ow (bs cn (j - 1) + k)).toInt = (j : Int) ∧ (np (bs cn (j - 1) + k)).toInt = (pl j k : Int)) (hnc : rg nc0 27 0 0) (hal : rg al0 27 0 0) (hnd : gg nd0 27 20 0 26) (hN : 4000 ≤ N) :
    ok (md_Tex_addNeeds N pd at0 t jol ow np cnd jobs nc0 nd0 g0 al0) (fun o =>
      (o.1.toInt = 0 ∧ gg o.2.2.2.1 27 20 0 26 ∧ ∃ j k, 1 ≤ j ∧ j ≤ J ∧ k < cn j ∧ tg nm J (tx t (pl j k)) = 0 ∧ o.2.1.toInt = (pl j k : Int) ∧ FM (tx t) J nm cn pl (bs cn (j - 1) + k)) ∨
      (o.1.toInt = 1 ∧ o.2.1 = at0 ∧ FM (tx t) J nm cn pl (bs cn J) ∧ rg o.2.2.1 27 0 20 ∧ gg o.2.2.2.1 27 20 0 26 ∧ nt J o.2.2.1 o.2.2.2.1 ∧ CL J o.2.2.1 o.2.2.2.1 o.2.2.2.2.2 ∧ NF (tx t) J nm cn pl o.2.2.1 o.2.2.2.1)) := by
  have hz : (0 : Int32).toInt = 0 := rfl
  have h97 : (97 : Int32).toInt = 97 := rfl
  have hJ := hW.1
  have hb520 := wf_bs hW
  unfold md_Tex_addNeeds
  refine ok_fx5 (fun (x : Int32) (nc : Nat → Int32) (nd : Nat → Nat → Int32) (_ : Nat → Nat → Int32) (al : Nat → Int32) => ∃ (p : Nat), x.toInt = (p : Int) ∧ p ≤ bs cn J ∧ FM (tx t) J nm cn pl p ∧ rg nc 27 0 20 ∧ gg nd 27 20 0 26 ∧ nt J nc nd ∧ CL J nc nd al ∧ ∀ j, 1 ≤ j → j ≤ J → (nc j).toInt = ((min (cn j) (p - bs cn (j - 1)) : Nat) : Int) ∧ ∀ k, k < cn j → bs cn (j - 1) + k < p → (nd j k).toInt = (tg nm J (tx t (pl j k)) : Int)) (fun (x : Int32) (_ : Nat → Int32) (_ _ : Nat → Nat → Int32) (_ : Nat → Int32) => (bs cn J - x.toInt).toNat) ?_ _ _ _ _ _ _ ⟨0, hz, by omega, fun j k _ _ _ q => absurd q (Nat.not_lt_zero _), fun j hj => by have := hnc j hj; omega, hnd, ⟨hJ, fun j q1 q2 => ?_⟩, fun a b a1 a2 b1 b2 => ?_, fun j q1 q2 => ⟨?_, fun k _ q => absurd q (Nat.not_lt_zero _)⟩⟩ (by omega)
  · intro rec x nc nd g al hI ih
    obtain ⟨p, hx, hp, hF, hnc1, hnd1, hnt1, hcl1, hN1⟩ := hI
    unfold md_Tex_addNeeds_F2
    simp only [cl_n]
    have ex : x.toInt.toNat = p := by omega
    simp only [ex]
    refine ok_le (fun e => ok_some (Or.inr ⟨rfl, rfl, ?_, hnc1, hnd1, hnt1, hcl1, ?_⟩)) (fun e => ?_)
    · have ep : p = bs cn J := by omega
      rw [← ep]; exact hF
    · have ep : p = bs cn J := by omega
      intro j q1 q2
      have h1 := hN1 j q1 q2
      have h2 := bs_step (cn := cn) q1
      have h3 := bs_mono (cn := cn) J q2
      exact ⟨by rw [h1.1]; omega, fun k hk => h1.2 k hk (by omega)⟩
    · obtain ⟨j, k, j1, j2, hk, epk⟩ := bs_find (cn := cn) J p (by omega)
      have ho := how j k j1 j2 hk
      rw [← epk] at ho
      have hw := hW.2 j j1 j2
      have hwk := hw.2 k hk
      have enp : (np p).toInt.toNat = pl j k := by omega
      have et : (t (pl j k)).toInt = tx t (pl j k) := rfl
      have e97 : (t (pl j k) - (97 : Int32)).toInt = tx t (pl j k) - 97 := by
        have h1 := hwk.2
        generalize t (pl j k) = c at *
        clear hN1 hcl1 hnt1 hnd1 hnc1 hF ih how hjol hnc hal hnd
        first | omega | (simp only [i_add, i_sub, i_mul, l_add, l_sub, Int32.reduceToInt, Int64.reduceToInt, cl_n, true_or, or_true, true_and, and_true, and_self] at *; omega) | (simp only [i_add, i_sub, i_mul, l_add, l_sub, Int32.reduceToInt, Int64.reduceToInt, cl_n, true_or, or_true, true_and, and_true, and_self] at *; done)
      simp only [enp]
      refine ok_in (by omega) (ok_in (by omega) (ok_in (by omega) (ok_zl ?_)))
      have hl := hjol (t (pl j k) - (97 : Int32)).toInt.toNat (by omega)
      rw [show (97 + (((t (pl j k) - (97 : Int32)).toInt.toNat : Nat) : Int)) = tx t (pl j k) from by omega] at hl
      have htl := tg_le nm (tx t (pl j k)) J
      generalize jol (t (pl j k) - (97 : Int32)).toInt.toNat = y at hl ⊢
      refine ok_eq (fun e0 => ok_in (by omega) (ok_some (Or.inl ⟨rfl, hnd1, j, k, j1, j2, hk, by omega, ho.2, by rw [← epk]; exact hF⟩))) (fun e0 => ok_in (by omega) (ok_in (by omega) ?_))
      have h1 := hN1 j j1 j2
      have enc : (nc j).toInt = (k : Int) := by rw [h1.1]; omega
      have eow : (ow p).toInt.toNat = j := by omega
      refine ok_zc (gf_addNeed (by omega) (by omega) (by omega) (by rw [eow]; omega) hN) (fun o7 ho7 => ?_)
      rw [eow] at ho7
      obtain ⟨q1, q2, q3⟩ := ho7
      have hcc : 0 ≤ (nc j).toInt ∧ (nc j).toInt < 20 := by omega
      have hc1 : (nc j + 1).toInt = (nc j).toInt + 1 := by
        generalize nc j = c at *
        clear hN1 hcl1 hnt1 hnd1 hnc1 hF ih how hjol hnc hal hnd q1 q2 q3
        first | omega | (simp only [i_add, i_sub, i_mul, l_add, l_sub, Int32.reduceToInt, Int64.reduceToInt, cl_n, true_or, or_true, true_and, and_true, and_self] at *; omega) | (simp only [i_add, i_sub, i_mul, l_add, l_sub, Int32.reduceToInt, Int64.reduceToInt, cl_n, true_or, or_true, true_and, and_true, and_self] at *; done)
      have hx1 : (x + 1).toInt = x.toInt + 1 := by
        clear hN1 hcl1 hnt1 hnd1 hnc1 hF ih how hjol hnc hal hnd q1 q2 q3
        first | omega | (simp only [i_add, i_sub, i_mul, l_add, l_sub, Int32.reduceToInt, Int64.reduceToInt, cl_n, true_or, or_true, true_and, and_true, and_self] at *; omega) | (simp only [i_add, i_sub, i_mul, l_add, l_sub, Int32.reduceToInt, Int64.reduceToInt, cl_n, true_or, or_true, true_and, and_true, and_self] at *; done)
      have enc2 : (nc j).toInt.toNat = k := by omega
      rw [q1, q2]
      refine ih _ _ _ _ _ ⟨p + 1, by omega, by omega, fun j' k' a1 a2 a3 a4 => ?_, rg_upd hnc1 (by omega), gg_up hnd1 (by omega), nt_more hnt1 ⟨j1, j2⟩ hcc (by omega), cl_more hcl1 hJ ⟨j1, j2⟩ hcc (by omega) (fun a b1 b2 b b3 => q3 a b1 (by omega) b b3), fun j' a1 a2 => ?_⟩ (by omega)
      · by_cases e9 : bs cn (j' - 1) + k' = bs cn (j - 1) + k
        · obtain ⟨rfl, rfl⟩ := bs_one a1 j1 a3 hk e9
          omega
        · exact hF j' k' a1 a2 a3 (by omega)
      · have h2 := hN1 j' a1 a2
        have s1 := bs_step (cn := cn) a1
        have s2 := bs_step (cn := cn) j1
        by_cases e9 : j' = j
        · subst e9
          rw [pk_us, enc2]
          refine ⟨by omega, fun k' b1 b2 => ?_⟩
          by_cases e8 : k' = k
          · rw [e8, gup_s]; exact hl
          · rw [gup_n (Or.inr e8)]; exact h2.2 k' b1 (by omega)
        · rw [pk_un e9]
          refine ⟨?_, fun k' b1 b2 => ?_⟩
          · rw [h2.1]
            rcases Nat.lt_or_gt_of_ne e9 with q | q
            · have := bs_lt (cn := cn) q
              omega
            · have := bs_lt (cn := cn) q
              omega
          · rw [gup_n (Or.inl e9)]
            refine h2.2 k' b1 ?_
            rcases Nat.lt_or_gt_of_ne e9 with q | q
            · have := bs_lt (cn := cn) q
              omega
            · have := bs_lt (cn := cn) q
              omega
  · have h1 := hnc j (by omega)
    exact ⟨by omega, by omega, fun k hk => by omega⟩
  · have h1 := hal a (by omega)
    have h2 : al0 a = 0 := Int32.toInt_inj.mp (by omega)
    rw [h2]
    have hb0 : bt 0 b = false := by
      have : ∀ i, i < 32 → bt (0 : Int32) i = false := by decide +kernel
      exact this b (by omega)
    rw [hb0]
    refine ⟨fun q => absurd q Bool.false_ne_true, fun q => ?_⟩
    obtain ⟨d, ⟨-, -, k, hk, -⟩, -⟩ := q
    have h3 := hnc a (by omega)
    omega
  · have h1 := hnc j (by omega)
    omega
