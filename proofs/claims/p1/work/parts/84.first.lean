-- 84.first: the first need on a ring, in class and reference
def FR (J : Nat) (nc : Nat → Int32) (nd : Nat → Nat → Int32) (j k : Nat) : Prop := ∀ j' k' : Nat, 1 ≤ j' → j' ≤ J → (k' : Int) < (nc j').toInt → (j' < j ∨ (j' = j ∧ k' < k)) → ¬ RS (ED J nc nd) (nd j' k').toInt.toNat j'
def HT (J : Nat) (nc : Nat → Int32) (nd : Nat → Nat → Int32) (j k : Nat) : Prop := 1 ≤ j ∧ j ≤ J ∧ (k : Int) < (nc j).toInt ∧ RS (ED J nc nd) (nd j k).toInt.toNat j ∧ FR J nc nd j k
theorem ht_one {J : Nat} {nc : Nat → Int32} {nd : Nat → Nat → Int32} {i j k l : Nat} (h : HT J nc nd i k) (g : HT J nc nd j l) : i = j ∧ k = l := by
  obtain ⟨h1, h2, h3, h4, h5⟩ := h
  obtain ⟨g1, g2, g3, g4, g5⟩ := g
  have q1 : ¬ (i < j ∨ (i = j ∧ k < l)) := fun z => g5 i k h1 h2 h3 z h4
  have q2 : ¬ (j < i ∨ (j = i ∧ l < k)) := fun z => h5 j l g1 g2 g3 z g4
  omega
theorem cf_first {N J : Nat} {jobs len : Int32} {q bf nc al row : Nat → Int32} {nd : Nat → Nat → Int32} (hj : jobs.toInt = (J : Int)) (hn : nt J nc nd) (hc : CL J nc nd al) (hN : 4000 ≤ N) :
    ok (md_Rin_findFirst N q bf jobs nc nd al len row) (fun o => (o.1.toInt = 0 ∧ FR J nc nd (J + 1) 0 ∧ o.2.2.2.1 = len ∧ o.2.2.2.2 = row) ∨ (o.1.toInt = 1 ∧ ∃ (j k : Nat) (z : Int32), HT J nc nd j k ∧ z.toInt = (j : Int) ∧ ∃ (i D : Nat), ch (bi nc nd (b0 (nd j k)) i).2.2 z D ∧ (∀ m, m ≤ D → ((bi nc nd (b0 (nd j k)) i).2.2 (an (bi nc nd (b0 (nd j k)) i).2.2 z m).toInt.toNat).toInt ≠ -1) ∧ o.2.2.2.1.toInt = (D : Int) + 1 ∧ ∀ m, m ≤ D → o.2.2.2.2 (D - m) = an (bi nc nd (b0 (nd j k)) i).2.2 z m)) := by
  have hz : (0 : Int32).toInt = 0 := rfl
  have h1 : (1 : Int32).toInt = 1 := rfl
  have hJ := hn.1
  unfold md_Rin_findFirst
  refine ok_fx1 (fun (x : Int32) => ∃ j : Nat, 1 ≤ j ∧ j ≤ J + 1 ∧ x.toInt = (j : Int) ∧ FR J nc nd j 0) (fun (x : Int32) => (27 - x.toInt).toNat) ?_ _ _ ⟨1, by omega, by omega, h1, fun j' k' a1 a2 a3 a4 => by omega⟩ (by omega)
  intro rec x hI ih
  obtain ⟨j, j1, j2, hx, hF⟩ := hI
  unfold md_Rin_findFirst_F2
  refine ok_lt (fun e => ok_some (Or.inl ⟨rfl, ?_, rfl, rfl⟩)) (fun e => ?_)
  · have : j = J + 1 := by omega
    rw [← this]; exact hF
  · have hx1 : (x + 1).toInt = x.toInt + 1 := by
      clear hF hn hc ih
      first | omega | (simp only [i_add, i_sub, i_mul, l_add, l_sub, Int32.reduceToInt, Int64.reduceToInt, cl_n, true_or, or_true, true_and, and_true, and_self] at *; omega) | (simp only [i_add, i_sub, i_mul, l_add, l_sub, Int32.reduceToInt, Int64.reduceToInt, cl_n, true_or, or_true, true_and, and_true, and_self] at *; done)
    have ex : x.toInt.toNat = j := by omega
    have hnj := hn.2 j j1 (by omega)
    refine ok_fx1 (fun (y : Int32) => ∃ k : Nat, (k : Int) ≤ (nc j).toInt ∧ y.toInt = (k : Int) ∧ FR J nc nd j k) (fun (y : Int32) => (21 - y.toInt).toNat) ?_ _ _ ⟨0, by omega, hz, hF⟩ (by omega)
    intro rec2 y hI2 ih2
    obtain ⟨k, hk, hy, hF2⟩ := hI2
    unfold md_Rin_findFirst_F13
    have ey : y.toInt.toNat = k := by omega
    simp only [cl_n, ex, ey]
    refine ok_in (by omega) (ok_le (fun e2 => ?_) (fun e2 => ok_in (by omega) (ok_in (by omega) (ok_zl ?_))))
    · refine ih _ ⟨j + 1, by omega, by omega, by omega, fun j' k' a1 a2 a3 a4 => ?_⟩ (by omega)
      by_cases e3 : j' = j
      · subst e3
        exact hF2 j' k' a1 a2 a3 (by omega)
      · exact hF2 j' k' a1 a2 a3 (by omega)
    · have hk2 : (k : Int) < (nc j).toInt := by omega
      have hndk := hnj.2.2 k hk2
      have hrs := cl_rs hc (a := (nd j k).toInt.toNat) (b := j) (by omega) (by omega)
      have hk20 : k < 20 := by omega
      have hy1 : (y + 1).toInt = y.toInt + 1 := by
        clear hF hF2 hn hc ih ih2 hrs hnj hndk
        first | omega | (simp only [i_add, i_sub, i_mul, l_add, l_sub, Int32.reduceToInt, Int64.reduceToInt, cl_n, true_or, or_true, true_and, and_true, and_self] at *; omega) | (simp only [i_add, i_sub, i_mul, l_add, l_sub, Int32.reduceToInt, Int64.reduceToInt, cl_n, true_or, or_true, true_and, and_true, and_self] at *; done)
      refine ok_zc (gf_closes (by omega) (by omega)) (fun o5 ho5 => ok_eq (fun e3 => ?_) (fun e3 => ?_))
      · have hno : ¬ RS (ED J nc nd) (nd j k).toInt.toNat j := by
          rw [hrs]
          rcases ho5 with ho5 | ho5
          · rw [ex] at ho5
            rintro (z | z)
            · omega
            · rw [ho5.2.2] at z; cases z
          · omega
        refine ih2 _ ⟨k + 1, by omega, by omega, fun j' k' a1 a2 a3 a4 => ?_⟩ (by omega)
        by_cases e4 : j' = j ∧ k' = k
        · obtain ⟨rfl, rfl⟩ := e4
          exact hno
        · exact hF2 j' k' a1 a2 a3 (by omega)
      · have hyes : RS (ED J nc nd) (nd j k).toInt.toNat j := by
          rw [hrs]
          rcases ho5 with ho5 | ho5
          · omega
          · rw [ex] at ho5
            rcases ho5.2 with z | z
            · exact Or.inl (by omega)
            · exact Or.inr z
        refine ok_zc (cr_find hn (by omega) (by omega) (by rw [ex]; exact hyes) hN) (fun o6 ho6 => ok_some (Or.inr ⟨rfl, j, k, x, ⟨j1, by omega, hk2, hyes, hF2⟩, hx, ?_⟩))
        obtain ⟨i, D, -, -, q1, q2, q3, q4⟩ := ho6
        exact ⟨i, D, q1, q2, q3, q4⟩
theorem lf_first {N J : Nat} {jobs rs : Int32} {many needs ring came lev pth nc : Nat → Int32} {nd : Nat → Nat → Int32} (hj : jobs.toInt = (J : Int)) (hn : nt J nc nd) (hg : ag J nc nd many needs) (hN : 4000 ≤ N) :
    ok (md_B_newRing N jobs rs many needs ring came lev pth) (fun o => (o.1.toInt = 0 ∧ FR J nc nd (J + 1) 0 ∧ o.2.1 = rs ∧ o.2.2.1 = ring) ∨ (o.1.toInt = 1 ∧ ∃ (j k : Nat) (z : Int32), HT J nc nd j k ∧ z.toInt = (j : Int) ∧ ∃ (i D : Nat) (cm lv : Nat → Int32), RH nc nd (nd j k) z cm lv i D ∧ o.2.1.toInt = (D : Int) + 1 ∧ ∀ m, m ≤ D → o.2.2.1 (D - m) = an cm z m)) := by
  have hz : (0 : Int32).toInt = 0 := rfl
  have h1 : (1 : Int32).toInt = 1 := rfl
  have hJ := hn.1
  unfold md_B_newRing
  refine ok_fx4 (fun (x : Int32) (_ _ _ : Nat → Int32) => ∃ j : Nat, 1 ≤ j ∧ j ≤ J + 1 ∧ x.toInt = (j : Int) ∧ FR J nc nd j 0) (fun (x : Int32) (_ _ _ : Nat → Int32) => (27 - x.toInt).toNat) ?_ _ _ _ _ _ ⟨1, by omega, by omega, h1, fun j' k' a1 a2 a3 a4 => by omega⟩ (by omega)
  intro rec x f2 f3 f4 hI ih
  obtain ⟨j, j1, j2, hx, hF⟩ := hI
  unfold md_B_newRing_F2
  refine ok_lt (fun e => ok_some (Or.inl ⟨rfl, ?_, rfl, rfl⟩)) (fun e => ?_)
  · have : j = J + 1 := by omega
    rw [← this]; exact hF
  · have hx1 : (x + 1).toInt = x.toInt + 1 := by
      clear hF hn hg ih
      first | omega | (simp only [i_add, i_sub, i_mul, l_add, l_sub, Int32.reduceToInt, Int64.reduceToInt, cl_n, true_or, or_true, true_and, and_true, and_self] at *; omega) | (simp only [i_add, i_sub, i_mul, l_add, l_sub, Int32.reduceToInt, Int64.reduceToInt, cl_n, true_or, or_true, true_and, and_true, and_self] at *; done)
    have ex : x.toInt.toNat = j := by omega
    have hnj := hn.2 j j1 (by omega)
    have hgj := hg j j1 (by omega)
    refine ok_fx4 (fun (y : Int32) (_ _ _ : Nat → Int32) => ∃ k : Nat, (k : Int) ≤ (nc j).toInt ∧ y.toInt = (k : Int) ∧ FR J nc nd j k) (fun (y : Int32) (_ _ _ : Nat → Int32) => (21 - y.toInt).toNat) ?_ _ _ _ _ _ ⟨0, by omega, hz, hF⟩ (by omega)
    intro rec2 y f6 f7 f8 hI2 ih2
    obtain ⟨k, hk, hy, hF2⟩ := hI2
    unfold md_B_newRing_F12
    simp only [cl_n, ex]
    rw [hgj.1]
    refine ok_in (by omega) (ok_le (fun e2 => ?_) (fun e2 => ?_))
    · refine ih _ _ _ _ ⟨j + 1, by omega, by omega, by omega, fun j' k' a1 a2 a3 a4 => ?_⟩ (by omega)
      by_cases e3 : j' = j
      · subst e3
        exact hF2 j' k' a1 a2 a3 (by omega)
      · exact hF2 j' k' a1 a2 a3 (by omega)
    · have hk2 : (k : Int) < (nc j).toInt := by omega
      have hndk := hnj.2.2 k hk2
      have hid : (((20 : Int32) * (x - (1 : Int32))) + y).toInt = 20 * ((j : Int) - 1) + (k : Int) := by
        rw [nb_i (by omega) (by omega) (by omega) (by omega)]
        omega
      generalize ((20 : Int32) * (x - (1 : Int32))) + y = ix at hid ⊢
      have eid : ix.toInt.toNat = 20 * (j - 1) + k := by omega
      have hk20 : k < 20 := by omega
      have hy1 : (y + 1).toInt = y.toInt + 1 := by
        clear hF hF2 hn hg ih ih2 hnj hndk hgj hid eid
        first | omega | (simp only [i_add, i_sub, i_mul, l_add, l_sub, Int32.reduceToInt, Int64.reduceToInt, cl_n, true_or, or_true, true_and, and_true, and_self] at *; omega) | (simp only [i_add, i_sub, i_mul, l_add, l_sub, Int32.reduceToInt, Int64.reduceToInt, cl_n, true_or, or_true, true_and, and_true, and_self] at *; done)
      simp only [eid]
      rw [hgj.2 k hk2]
      refine ok_in (by omega) (ok_zc (lr_reaches hn hg (by omega) (by omega) hj hN) (fun o3 ho3 => ok_eq (fun e6 => ?_) (fun e6 => ?_)))
      · have hno : ¬ RS (ED J nc nd) (nd j k).toInt.toNat j := by
          rcases ho3 with ho3 | ho3
          · rw [ex] at ho3; exact ho3.2
          · omega
        refine ih2 _ _ _ _ ⟨k + 1, by omega, by omega, fun j' k' a1 a2 a3 a4 => ?_⟩ (by omega)
        by_cases e4 : j' = j ∧ k' = k
        · obtain ⟨rfl, rfl⟩ := e4
          exact hno
        · exact hF2 j' k' a1 a2 a3 (by omega)
      · rcases ho3 with ho3 | ⟨ho3, hyes, i, D, hRH⟩
        · omega
        · rw [ex] at hyes
          have hRH9 := hRH
          obtain ⟨q0, q1, q2, q3, q4, q5⟩ := hRH9
          have hcm : ch o3.2.1 x D := by
            have ha := an_came q2 q3 q5
            refine ⟨q2.1, fun m hm => ?_, ?_⟩
            · rw [ha m (by omega)]; exact q2.2.1 m hm
            · rw [ha (D + 1) (by omega)]; exact q2.2.2
          exact ok_zc (lr_keep hcm q4 hN) (fun o7 ho7 => ok_some (Or.inr ⟨rfl, j, k, x, ⟨j1, by omega, hk2, hyes, hF2⟩, hx, i, D, _, _, hRH, ho7.1, ho7.2⟩))
theorem ring_both {N J : Nat} {jA jB len rs : Int32} {q bf nc al row many needs ring came lev pth : Nat → Int32} {nd : Nat → Nat → Int32} (hjA : jA.toInt = (J : Int)) (hjB : jB.toInt = (J : Int)) (hn : nt J nc nd) (hc : CL J nc nd al) (hg : ag J nc nd many needs) (hr : RE len row rs ring) (hN : 4000 ≤ N) :
    ∃ oA, md_Rin_findFirst N q bf jA nc nd al len row = some oA ∧ ∃ oB, md_B_newRing N jB rs many needs ring came lev pth = some oB ∧ ((oA.1.toInt = 0 ∧ oB.1.toInt = 0) ∨ (oA.1.toInt = 1 ∧ oB.1.toInt = 1)) ∧ RE oA.2.2.2.1 oA.2.2.2.2 oB.2.1 oB.2.2.1 := by
  obtain ⟨oA, eA, hA⟩ := cf_first (q := q) (bf := bf) (len := len) (row := row) hjA hn hc hN
  obtain ⟨oB, eB, hB⟩ := lf_first (rs := rs) (ring := ring) (came := came) (lev := lev) (pth := pth) hjB hn hg hN
  refine ⟨oA, eA, oB, eB, ?_⟩
  rcases hA with ⟨a1, a2, a3, a4⟩ | ⟨a1, j, k, z, a2, a3, i, D, a5, a6, a7, a8⟩
  · rcases hB with ⟨b1, b2, b3, b4⟩ | ⟨b1, j', k', z', b2, -⟩
    · rw [a3, a4, b3, b4]
      exact ⟨Or.inl ⟨a1, b1⟩, hr⟩
    · exact absurd b2.2.2.2.1 (a2 j' k' b2.1 b2.2.1 b2.2.2.1 (by have := b2.2.1; omega))
  · rcases hB with ⟨b1, b2, b3, b4⟩ | ⟨b1, j', k', z', b2, b3, i', E, cm, lv, b4, b5, b6⟩
    · exact absurd a2.2.2.2.1 (b2 j k a2.1 a2.2.1 a2.2.2.1 (by have := a2.2.1; omega))
    · obtain ⟨rfl, rfl⟩ := ht_one a2 b2
      have ez : z = z' := Int32.toInt_inj.mp (a3.trans b3.symm)
      subst ez
      exact ⟨Or.inr ⟨a1, b1⟩, re_of a5 a6 a7 a8 b4 b5 b6⟩
