-- 83.names: the reference looks the names up; its fault
def QF (T : Nat → Int) (J : Nat) (nm : Nat → Int) (cn : Nat → Nat) (pl : Nat → Nat → Nat) (p : Nat) (bad : Int32) (needs : Nat → Int32) : Prop :=
  (∀ j k, 1 ≤ j → j ≤ J → k < cn j → (needs (20 * (j - 1) + k)).toInt = if bs cn (j - 1) + k < p then (tg nm J (T (pl j k)) : Int) else T (pl j k)) ∧ ((bad.toInt = -1 ∧ FM T J nm cn pl p) ∨ ∃ j k, 1 ≤ j ∧ j ≤ J ∧ k < cn j ∧ tg nm J (T (pl j k)) = 0 ∧ bad.toInt = (pl j k : Int) ∧ FM T J nm cn pl (bs cn (j - 1) + k))
theorem qf_step {T : Nat → Int} {n J : Nat} {nm : Nat → Int} {cn : Nat → Nat} {pl : Nat → Nat → Nat} {bad y z : Int32} {needs : Nat → Int32} {j k : Nat} (hW : WF T n J cn pl) (h : QF T J nm cn pl (bs cn (j - 1) + k) bad needs) (j1 : 1 ≤ j) (j2 : j ≤ J) (hk : k < cn j) (hy : y.toInt = (tg nm J (T (pl j k)) : Int)) (hb : (tg nm J (T (pl j k)) ≠ 0 ∧ z = bad) ∨ (tg nm J (T (pl j k)) = 0 ∧ bad.toInt ≠ -1 ∧ z = bad) ∨ (tg nm J (T (pl j k)) = 0 ∧ bad.toInt = -1 ∧ z.toInt = (pl j k : Int))) :
    QF T J nm cn pl (bs cn (j - 1) + (k + 1)) z (upd needs (20 * (j - 1) + k) y) := by
  obtain ⟨h1, h2⟩ := h
  have w1 := (hW.2 j j1 j2).1
  constructor
  · intro j' k' a1 a2 a3
    have w2 := (hW.2 j' a1 a2).1
    by_cases e : j' = j ∧ k' = k
    · obtain ⟨rfl, rfl⟩ := e
      rw [pk_us, if_pos (by omega)]; exact hy
    · have hne : bs cn (j' - 1) + k' ≠ bs cn (j - 1) + k := fun q => e (bs_one a1 j1 a3 hk q)
      rw [pk_un (by omega), h1 j' k' a1 a2 a3]
      by_cases e2 : bs cn (j' - 1) + k' < bs cn (j - 1) + k
      · rw [if_pos e2, if_pos (by omega)]
      · rw [if_neg e2, if_neg (by omega)]
  · rcases hb with ⟨b1, rfl⟩ | ⟨b1, b2, rfl⟩ | ⟨b1, b2, b3⟩
    · rcases h2 with h2 | h2
      · refine Or.inl ⟨h2.1, fun j' k' a1 a2 a3 a4 => ?_⟩
        by_cases e : bs cn (j' - 1) + k' = bs cn (j - 1) + k
        · obtain ⟨rfl, rfl⟩ := bs_one a1 j1 a3 hk e
          exact b1
        · exact h2.2 j' k' a1 a2 a3 (by omega)
      · exact Or.inr h2
    · rcases h2 with h2 | h2
      · exact absurd h2.1 b2
      · exact Or.inr h2
    · rcases h2 with h2 | ⟨j', k', a1, a2, a3, a4, a5, a6⟩
      · exact Or.inr ⟨j, k, j1, j2, hk, b1, b3, h2.2⟩
      · omega
def PB (T : Nat → Int) (n : Nat) (fin : Bool × Nat × Nat × (Nat → Int) × (Nat → Nat) × (Nat → Nat → Nat)) (bad jobs : Int32) (numbers many needs : Nat → Int32) : Prop :=
  (fin.1 = false ∧ bad.toInt = (fin.2.1 : Int)) ∨
  (fin.1 = true ∧ ∃ j k, 1 ≤ j ∧ j ≤ fin.2.2.1 ∧ k < fin.2.2.2.2.1 j ∧ tg fin.2.2.2.1 fin.2.2.1 (T (fin.2.2.2.2.2 j k)) = 0 ∧ bad.toInt = (fin.2.2.2.2.2 j k : Int) ∧ FM T fin.2.2.1 fin.2.2.2.1 fin.2.2.2.2.1 fin.2.2.2.2.2 (bs fin.2.2.2.2.1 (j - 1) + k)) ∨
  (fin.1 = true ∧ bad.toInt = -1 ∧ FM T fin.2.2.1 fin.2.2.2.1 fin.2.2.2.2.1 fin.2.2.2.2.2 (bs fin.2.2.2.2.1 fin.2.2.1) ∧ WF T n fin.2.2.1 fin.2.2.2.2.1 fin.2.2.2.2.2 ∧ jobs.toInt = (fin.2.2.1 : Int) ∧ (∀ i, i < 4 * fin.2.2.1 → 0 ≤ (numbers i).toInt ∧ (numbers i).toInt ≤ 999999) ∧ ∀ j, 1 ≤ j → j ≤ fin.2.2.1 → (many j).toInt = (fin.2.2.2.2.1 j : Int) ∧ ∀ k, k < fin.2.2.2.2.1 j → (needs (20 * (j - 1) + k)).toInt = (tg fin.2.2.2.1 fin.2.2.1 (T (fin.2.2.2.2.2 j k)) : Int))
theorem uf_look {N n J a : Nat} {x1 : Int32} {o9 : Int32 × Int32} {t names numbers many needs conds places : Nat → Int32} {nm : Nat → Int} {cn : Nat → Nat} {pl : Nat → Nat → Nat} (hW : WF (tx t) n J cn pl) (hj : x1.toInt = (J : Int)) (hR : RW (tx t) J nm cn pl names numbers many needs places) (hN : 4000 ≤ N) :
    ok (fx3 (md_B_fault_F34 N x1 names numbers many conds places o9) N (1 : Int32) (-1 : Int32) needs) (fun o => PB (tx t) n (true, a, J, nm, cn, pl) o.1 o.2.1 o.2.2.2.2.1 o.2.2.2.2.2.1 o.2.2.2.2.2.2.1) := by
  have hz : (0 : Int32).toInt = 0 := rfl
  have h1 : (1 : Int32).toInt = 1 := rfl
  have hm1 : (-1 : Int32).toInt = -1 := rfl
  have hJ := hW.1
  refine ok_fx3 (fun (x b : Int32) (f : Nat → Int32) => ∃ j : Nat, j ≤ J ∧ x.toInt = (j : Int) + 1 ∧ QF (tx t) J nm cn pl (bs cn j) b f) (fun (x _ : Int32) (_ : Nat → Int32) => (27 - x.toInt).toNat) ?_ _ _ _ _ ⟨0, by omega, h1, fun j k a1 a2 a3 => ?_, Or.inl ⟨hm1, fun j k _ _ _ q => absurd q (Nat.not_lt_zero _)⟩⟩ (by omega)
  · intro rec x b f hI ih
    obtain ⟨j0, hj0, hx, hq⟩ := hI
    unfold md_B_fault_F34
    refine ok_lt (fun e => ok_some ?_) (fun e => ?_)
    · have ej : j0 = J := by omega
      rw [ej] at hq
      rcases hq.2 with q | q
      · refine Or.inr (Or.inr ⟨rfl, q.1, q.2, hW, hj, hR.2.1, fun j a1 a2 => ⟨(hR.2.2 j a1 a2).1, fun k hk => ?_⟩⟩)
        have h9 := hq.1 j k a1 a2 hk
        have b1 := bs_step (cn := cn) a1
        have b2 := bs_mono (cn := cn) J a2
        dsimp only at hk ⊢
        rw [if_pos (by omega)] at h9
        exact h9
      · exact Or.inr (Or.inl ⟨rfl, q⟩)
    · have j2 : j0 + 1 ≤ J := by omega
      have hx1 : (x + 1).toInt = x.toInt + 1 := by
        clear hq hR hW ih
        first | omega | (simp only [i_add, i_sub, i_mul, l_add, l_sub, Int32.reduceToInt, Int64.reduceToInt, cl_n, true_or, or_true, true_and, and_true, and_self] at *; omega) | (simp only [i_add, i_sub, i_mul, l_add, l_sub, Int32.reduceToInt, Int64.reduceToInt, cl_n, true_or, or_true, true_and, and_true, and_self] at *; done)
      have ex : x.toInt.toNat = j0 + 1 := by omega
      have hmj := hR.2.2 (j0 + 1) (by omega) j2
      have hwj := hW.2 (j0 + 1) (by omega) j2
      refine ok_fx3 (fun (x13 b : Int32) (f : Nat → Int32) => ∃ k : Nat, k ≤ cn (j0 + 1) ∧ x13.toInt = (k : Int) ∧ QF (tx t) J nm cn pl (bs cn (j0 + 1 - 1) + k) b f) (fun (x13 _ : Int32) (_ : Nat → Int32) => (21 - x13.toInt).toNat) ?_ _ _ _ _ ⟨0, by omega, hz, hq⟩ (by omega)
      intro rec2 x13 b f hI2 ih2
      obtain ⟨k, hk, hx13, hq2⟩ := hI2
      unfold md_B_fault_F44
      simp only [cl_n, ex]
      refine ok_in (by omega) (ok_le (fun e2 => ?_) (fun e2 => ok_zl ?_))
      · have ek : k = cn (j0 + 1) := by omega
        rw [ek] at hq2
        exact ih _ _ _ ⟨j0 + 1, j2, by omega, hq2⟩ (by omega)
      · have hk2 : k < cn (j0 + 1) := by omega
        have hid : (((20 : Int32) * (x - (1 : Int32))) + x13).toInt = 20 * (j0 : Int) + (k : Int) := by
          rw [nb_i (by omega) (by omega) (by omega) (by omega)]
          omega
        generalize ((20 : Int32) * (x - (1 : Int32))) + x13 = id at hid ⊢
        have eid : id.toInt.toNat = 20 * (j0 + 1 - 1) + k := by omega
        simp only [eid]
        have hnd := hq2.1 (j0 + 1) k (by omega) j2 hk2
        rw [if_neg (by omega)] at hnd
        have hpp := (hmj.2 k hk2).2
        have hk20 : k < 20 := by have := hwj.1; omega
        have hx131 : (x13 + 1).toInt = x13.toInt + 1 := by
          clear hq hq2 hR hW ih ih2 hmj hwj hnd hpp
          first | omega | (simp only [i_add, i_sub, i_mul, l_add, l_sub, Int32.reduceToInt, Int64.reduceToInt, cl_n, true_or, or_true, true_and, and_true, and_self] at *; omega) | (simp only [i_add, i_sub, i_mul, l_add, l_sub, Int32.reduceToInt, Int64.reduceToInt, cl_n, true_or, or_true, true_and, and_true, and_self] at *; done)
        refine ok_in (by omega) (ok_zc (uf_named hj hJ hR.1 hN) (fun o17 ho17 => ?_))
        rw [hnd] at ho17
        have hjj : 1 ≤ j0 + 1 := by omega
        refine ok_eq (fun e3 => ok_eq (fun e4 => ok_in (by omega) (ok_in (by omega) (ok_zl ?_))) (fun e4 => ok_in (by omega) (ok_zl ?_))) (fun e3 => ok_in (by omega) (ok_zl ?_))
        · exact ih2 _ _ _ ⟨k + 1, by omega, by omega, qf_step hW hq2 hjj j2 hk2 ho17 (Or.inr (Or.inr ⟨by omega, by omega, hpp⟩))⟩ (by omega)
        · exact ih2 _ _ _ ⟨k + 1, by omega, by omega, qf_step hW hq2 hjj j2 hk2 ho17 (Or.inr (Or.inl ⟨by omega, by omega, rfl⟩))⟩ (by omega)
        · exact ih2 _ _ _ ⟨k + 1, by omega, by omega, qf_step hW hq2 hjj j2 hk2 ho17 (Or.inl ⟨by omega, rfl⟩)⟩ (by omega)
  · rw [show bs cn 0 = 0 from rfl, if_neg (Nat.not_lt_zero _)]
    exact ((hR.2.2 j a1 a2).2 k a3).1
theorem uf_fault {N n : Nat} {len nj0 pl0 : Int32} {t u names numbers many needs conds places : Nat → Int32} {fin : Bool × Nat × Nat × (Nat → Int) × (Nat → Nat) × (Nat → Nat → Nat)} (ht : tr n t u) (hl : len.toInt = (n : Int)) (hn : n ≤ 2000) (hN : 4000 ≤ N) (hfin : sp (tx t) n 26 0 0 (fun _ => 0) (fun _ => 0) (fun _ _ => 0) = fin) :
    ok (md_B_fault N len nj0 pl0 u names numbers many needs conds places) (fun o => PB (tx t) n fin o.1 o.2.1 o.2.2.2.2.1 o.2.2.2.2.2.1 o.2.2.2.2.2.2.1) := by
  have hz : (0 : Int32).toInt = 0 := rfl
  have hm1 : (-1 : Int32).toInt = -1 := rfl
  unfold md_B_fault
  refine ok_fx8 (fun (x1 x2 : Int32) (f3 f4 f5 f6 _ f8 : Nat → Int32) => ∃ (J a : Nat) (nm : Nat → Int) (cn : Nat → Nat) (pl : Nat → Nat → Nat), x1.toInt = (J : Int) ∧ x2.toInt = (a : Int) ∧ a ≤ n ∧ sp (tx t) n (26 - J) J a nm cn pl = fin ∧ WF (tx t) n J cn pl ∧ RW (tx t) J nm cn pl f3 f4 f5 f6 f8) (fun (x1 _ : Int32) (_ _ _ _ _ _ : Nat → Int32) => (27 - x1.toInt).toNat) ?_ _ _ _ _ _ _ _ _ _ ⟨0, 0, fun _ => 0, fun _ => 0, fun _ _ => 0, hz, hz, by omega, hfin, ⟨by omega, fun j a1 a2 => by omega⟩, fun j a1 a2 => by omega, fun i hi => by omega, fun j a1 a2 => by omega⟩ (by omega)
  intro rec x1 x2 f3 f4 f5 f6 f7 f8 hI ih
  obtain ⟨J, a, nm, cn, pl, hx1, hx2, ha, hs, hW, hR⟩ := hI
  have hJ := hW.1
  have hsk := sk_le (T := tx t) ha
  have hss := sk_sk (T := tx t) ha
  unfold md_B_fault_F10
  refine ok_zc (uf_sign ht hl hn hx2 ha hN) (fun o9 ho9 => ?_)
  have ho9a := ho9.1
  refine ok_eq (fun e => ?_) (fun e => ?_)
  · have hend : n ≤ sk (tx t) n a := by
      rcases ho9.2 with q | ⟨-, -, q⟩
      · exact q.1
      · omega
    have e26 : fin = (true, sk (tx t) n a, J, nm, cn, pl) := by
      by_cases e9 : J = 26
      · rw [e9] at hs
        have hs2 : (decide (n ≤ sk (tx t) n a), sk (tx t) n a, 26, nm, cn, pl) = fin := hs
        rw [decide_eq_true hend] at hs2
        rw [e9]; exact hs2.symm
      · rw [show 26 - J = (25 - J) + 1 from by omega] at hs
        unfold sp at hs
        rw [if_pos hend] at hs
        exact hs.symm
    rw [e26]
    exact uf_look hW hx1 hR hN
  · have hsn : sk (tx t) n a < n := by
      rcases ho9.2 with q | ⟨q0, -, q⟩
      · omega
      · exact q0
    clear ho9
    refine ok_zc (uf_reads ht hl hn ho9a hsn hss hx1 hJ hR (fun j a1 a2 => (hW.2 j a1 a2).1) hN) (fun o21 ho21 => ?_)
    by_cases e9 : J = 26
    · rw [e9] at hs
      have hs2 : (decide (n ≤ sk (tx t) n a), sk (tx t) n a, 26, nm, cn, pl) = fin := hs
      rw [decide_eq_false (by omega)] at hs2
      rcases ho21 with ⟨q1, q2, q3⟩ | ⟨q1, -⟩
      · refine ok_eq (fun e3 => ok_some ?_) (fun e3 => by omega)
        rw [← hs2]
        exact Or.inl ⟨rfl, q3⟩
      · omega
    · rw [show 26 - J = (25 - J) + 1 from by omega] at hs
      unfold sp at hs
      rw [if_neg (show ¬ n ≤ sk (tx t) n a from by omega)] at hs
      generalize sk (tx t) n a = s at hs hsn hsk ho9a ho21
      rcases ho21 with ⟨q1, q2, q3⟩ | ⟨q1, q2, q3, q4, q5⟩
      · rw [if_neg (fun z => q1 ⟨z.1, z.2.1, z.2.2, by omega⟩)] at hs
        refine ok_eq (fun e3 => ok_some ?_) (fun e3 => by omega)
        rw [← hs]
        exact Or.inl ⟨rfl, q3⟩
      · rw [if_pos ⟨q1.1, q1.2.1, q1.2.2.1⟩] at hs
        refine ok_eq (fun e3 => ok_some ?_) (fun e3 => ?_)
        · rw [if_neg (fun z => by have := q3.mpr z; omega)] at hs
          rw [← hs]
          exact Or.inl ⟨rfl, q4⟩
        · have e8 : o21.1.toInt = 1 := by omega
          rw [if_pos (q3.mp e8)] at hs
          obtain ⟨r1, r2⟩ := q5 e8
          have hsj := sj_le (T := tx t) hsn
          exact ih _ _ _ _ _ _ _ _ ⟨J + 1, _, _, _, _, by omega, q4, hsj.1, by rw [show 26 - (J + 1) = 25 - J from by omega]; exact hs, wf_more hW (by omega) hsn, r2⟩ (by omega)
