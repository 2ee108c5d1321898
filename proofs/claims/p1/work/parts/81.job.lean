-- 81.job: the reference reads a job
def RW (T : Nat → Int) (J : Nat) (nm : Nat → Int) (cn : Nat → Nat) (pl : Nat → Nat → Nat) (names numbers many needs places : Nat → Int32) : Prop :=
  (∀ j, 1 ≤ j → j ≤ J → (names j).toInt = nm j) ∧ (∀ i, i < 4 * J → 0 ≤ (numbers i).toInt ∧ (numbers i).toInt ≤ 999999) ∧ ∀ j, 1 ≤ j → j ≤ J → (many j).toInt = (cn j : Int) ∧ ∀ k, k < cn j → (needs (20 * (j - 1) + k)).toInt = T (pl j k) ∧ (places (20 * (j - 1) + k)).toInt = (pl j k : Int)
-- the needs of a job
theorem uf_needs {N n J b0 : Nat} {len x1 at0 : Int32} {t u f4 f8 many needs conds places : Nat → Int32} (ht : tr n t u) (hl : len.toInt = (n : Int)) (hn : n ≤ 2000) (ha : at0.toInt = (b0 : Int)) (hb0 : b0 ≤ n) (hj : x1.toInt = (J : Int)) (hJ : J < 26) (hm : (many (J + 1)).toInt = 0) (hN : 4000 ≤ N) :
    ok (fx5 (md_B_reads_F124 len x1 u N f4 f8) N at0 many needs conds places) (fun o => o.2.1.toInt = (J : Int) + 1 ∧ o.2.2.2.1 = f4 ∧ o.2.2.2.2.1 = f8 ∧ (o.1.toInt = 0 ∨ o.1.toInt = 1) ∧ (o.1.toInt = 1 ↔ (sn (tx t) n 21 0 b0 (fun _ => 0)).1 = true) ∧ o.2.2.1.toInt = ((sn (tx t) n 21 0 b0 (fun _ => 0)).2.1 : Int) ∧ (o.2.2.2.2.2.1 (J + 1)).toInt = ((sn (tx t) n 21 0 b0 (fun _ => 0)).2.2.1 : Int) ∧ (∀ j, j ≠ J + 1 → o.2.2.2.2.2.1 j = many j) ∧ (∀ q, q < 20 * J → o.2.2.2.2.2.2.1 q = needs q ∧ o.2.2.2.2.2.2.2.2 q = places q) ∧ ∀ i, i < (sn (tx t) n 21 0 b0 (fun _ => 0)).2.2.1 → (o.2.2.2.2.2.2.1 (20 * J + i)).toInt = tx t ((sn (tx t) n 21 0 b0 (fun _ => 0)).2.2.2 i) ∧ (o.2.2.2.2.2.2.2.2 (20 * J + i)).toInt = ((sn (tx t) n 21 0 b0 (fun _ => 0)).2.2.2 i : Int)) := by
  have hz : (0 : Int32).toInt = 0 := rfl
  have h1 : (1 : Int32).toInt = 1 := rfl
  have h20 : (20 : Int32).toInt = 20 := rfl
  have h45 : (45 : Int32).toInt = 45 := rfl
  have h59 : (59 : Int32).toInt = 59 := rfl
  have h33 : (33 : Int32).toInt = 33 := rfl
  have h63 : (63 : Int32).toInt = 63 := rfl
  have hjb : (x1 + (1 : Int32)).toInt = (J : Int) + 1 := by
    clear hm ht
    first | omega | (simp only [i_add, i_sub, i_mul, l_add, l_sub, Int32.reduceToInt, Int64.reduceToInt, cl_n, true_or, or_true, true_and, and_true, and_self] at *; omega) | (simp only [i_add, i_sub, i_mul, l_add, l_sub, Int32.reduceToInt, Int64.reduceToInt, cl_n, true_or, or_true, true_and, and_true, and_self] at *; done)
  generalize hfin : sn (tx t) n 21 0 b0 (fun _ => 0) = fin
  refine ok_fx5 (fun (x : Int32) (f10 f11 _ f13 : Nat → Int32) => ∃ (k b : Nat) (pl : Nat → Nat), k ≤ 20 ∧ (f10 (J + 1)).toInt = (k : Int) ∧ x.toInt = (b : Int) ∧ b ≤ n ∧ sn (tx t) n (21 - k) k b pl = fin ∧ (∀ j, j ≠ J + 1 → f10 j = many j) ∧ (∀ q, q < 20 * J → f11 q = needs q ∧ f13 q = places q) ∧ ∀ i, i < k → (f11 (20 * J + i)).toInt = tx t (pl i) ∧ (f13 (20 * J + i)).toInt = (pl i : Int)) (fun (_ : Int32) (f10 _ _ _ : Nat → Int32) => (21 - (f10 (J + 1)).toInt).toNat) ?_ _ _ _ _ _ _ ⟨0, b0, fun _ => 0, by omega, hm, ha, hb0, hfin, fun j _ => rfl, fun q _ => ⟨rfl, rfl⟩, fun i hi => absurd hi (Nat.not_lt_zero _)⟩ (by omega)
  intro rec x f10 f11 f12 f13 hI ih
  obtain ⟨k, b, pl, hk, hmk, hx, hb, hs, hold, hbef, hnew⟩ := hI
  rw [show 21 - k = (20 - k) + 1 from by omega] at hs
  unfold sn at hs
  have hsk := sk_le (T := tx t) hb
  unfold md_B_reads_F124
  generalize hjbe : x1 + (1 : Int32) = jb at hjb ⊢
  have ejb : jb.toInt.toNat = J + 1 := by omega
  simp only [cl_n, ejb]
  have hidx : k < 20 → (((20 : Int32) * (jb - (1 : Int32))) + f10 (J + 1)).toInt = 20 * (J : Int) + (k : Int) := by
    intro hk2
    rw [nb_i (by omega) (by omega) (by omega) (by omega)]
    omega
  have hend : ∀ (r w : Nat) (rr ww : Int32), fin = (decide (r = 1), w, k, pl) → rr.toInt = (r : Int) → (r = 0 ∨ r = 1) → ww.toInt = (w : Int) → (jb.toInt = (J : Int) + 1 ∧ f4 = f4 ∧ f8 = f8 ∧ (rr.toInt = 0 ∨ rr.toInt = 1) ∧ (rr.toInt = 1 ↔ fin.1 = true) ∧ ww.toInt = (fin.2.1 : Int) ∧ (f10 (J + 1)).toInt = (fin.2.2.1 : Int) ∧ (∀ j, j ≠ J + 1 → f10 j = many j) ∧ (∀ q, q < 20 * J → f11 q = needs q ∧ f13 q = places q) ∧ ∀ i, i < fin.2.2.1 → (f11 (20 * J + i)).toInt = tx t (fin.2.2.2 i) ∧ (f13 (20 * J + i)).toInt = (fin.2.2.2 i : Int)) := by
    intro r w rr ww hf hr hr2 hw
    rw [hf]
    exact ⟨hjb, rfl, rfl, by omega, ⟨fun q => decide_eq_true (by omega), fun q => by have := of_decide_eq_true q; omega⟩, hw, hmk, hold, hbef, hnew⟩
  refine ok_zc (uf_sign ht hl hn hx hb hN) (fun o14 ho14 => ?_)
  generalize hsv : sk (tx t) n b = s at ho14 hs hsk
  have ho14a := ho14.1
  refine ok_eq (fun e => ?_) (fun e => ?_)
  · have hyes : s < n ∧ tx t s = 45 := by
      rcases ho14.2 with q | ⟨q0, -, q⟩
      · omega
      · omega
    clear ho14
    rw [if_neg (fun z => by omega), if_pos hyes] at hs
    refine ok_in (by omega) (ok_eq (fun e2 => ok_some ?_) (fun e2 => ?_))
    · rw [if_pos (by omega)] at hs
      exact hend 0 s 0 _ hs.symm hz (Or.inl rfl) ho14a
    · rw [if_neg (by omega)] at hs
      have hk2 : k < 20 := by omega
      have hid := hidx hk2
      have ho141 : (o14.2 + (1 : Int32)).toInt = ((s + 1 : Nat) : Int) := by
        generalize o14.2 = y at *
        clear hs hold hbef hnew ih hend hid hidx ht e
        first | omega | (simp only [i_add, i_sub, i_mul, l_add, l_sub, Int32.reduceToInt, Int64.reduceToInt, cl_n, true_or, or_true, true_and, and_true, and_self] at *; omega) | (simp only [i_add, i_sub, i_mul, l_add, l_sub, Int32.reduceToInt, Int64.reduceToInt, cl_n, true_or, or_true, true_and, and_true, and_self] at *; done)
      have hs1 := sk_le (T := tx t) (n := n) (a := s + 1) (by omega)
      refine ok_zc (uf_sign ht hl hn ho141 (by omega) hN) (fun o16 ho16 => ok_zc uf_name (fun o17 ho17 => ?_))
      generalize hvv : sk (tx t) n (s + 1) = v at ho16 hs hs1
      have ho16a := ho16.1
      refine ok_eq (fun e3 => ok_some ?_) (fun e3 => ?_)
      · have hno : ¬ (v < n ∧ 97 ≤ tx t v ∧ tx t v ≤ 122) := by
          rintro ⟨q1, q2, q3⟩
          rcases ho16.2 with q | ⟨-, -, q⟩
          · omega
          · omega
        rw [if_neg hno] at hs
        exact hend 0 v 0 _ hs.symm hz (Or.inl rfl) ho16a
      · have hyv : v < n ∧ 97 ≤ tx t v ∧ tx t v ≤ 122 ∧ o16.1.toInt = tx t v := by
          rcases ho16.2 with q | ⟨q0, -, q⟩
          · omega
          · omega
        clear ho16 ho17 e3
        rw [if_pos ⟨hyv.1, hyv.2.1, hyv.2.2.1⟩] at hs
        refine ok_in (by omega) (ok_zl ?_)
        generalize hide : ((20 : Int32) * (jb - (1 : Int32))) + f10 (J + 1) = id at hid hidx ⊢
        have eid : id.toInt.toNat = 20 * J + k := by omega
        simp only [eid]
        have ho161 : (o16.2 + (1 : Int32)).toInt = ((v + 1 : Nat) : Int) := by
          generalize o16.2 = y at *
          clear hs hold hbef hnew ih hend hid hidx ht hyv hide
          first | omega | (simp only [i_add, i_sub, i_mul, l_add, l_sub, Int32.reduceToInt, Int64.reduceToInt, cl_n, true_or, or_true, true_and, and_true, and_self] at *; omega) | (simp only [i_add, i_sub, i_mul, l_add, l_sub, Int32.reduceToInt, Int64.reduceToInt, cl_n, true_or, or_true, true_and, and_true, and_self] at *; done)
        have hv1 := sk_le (T := tx t) (n := n) (a := v + 1) (by omega)
        refine ok_in (by omega) (ok_zl (ok_in (by omega) (ok_zl (ok_zc (uf_sign ht hl hn ho161 (by omega) hN) (fun o21 ho21 => ok_zl ?_)))))
        generalize hww : sk (tx t) n (v + 1) = w at ho21 hs hv1
        have ho21a := ho21.1
        have hmk1 : (f10 (J + 1) + (1 : Int32)).toInt = (k : Int) + 1 := by
          generalize f10 (J + 1) = y at *
          clear hs hold hbef hnew ih hend hid hidx ht hyv hide ho21
          first | omega | (simp only [i_add, i_sub, i_mul, l_add, l_sub, Int32.reduceToInt, Int64.reduceToInt, cl_n, true_or, or_true, true_and, and_true, and_self] at *; omega) | (simp only [i_add, i_sub, i_mul, l_add, l_sub, Int32.reduceToInt, Int64.reduceToInt, cl_n, true_or, or_true, true_and, and_true, and_self] at *; done)
        have hgo : ∀ (y : Int32) (f24 : Nat → Int32), y.toInt = (nx (tx t) n w : Int) → ok (rec y (upd f10 (J + 1) (f10 (J + 1) + (1 : Int32))) (upd f11 (20 * J + k) o16.1) f24 (upd f13 (20 * J + k) o16.2)) (fun o => o.2.1.toInt = (J : Int) + 1 ∧ o.2.2.2.1 = f4 ∧ o.2.2.2.2.1 = f8 ∧ (o.1.toInt = 0 ∨ o.1.toInt = 1) ∧ (o.1.toInt = 1 ↔ fin.1 = true) ∧ o.2.2.1.toInt = (fin.2.1 : Int) ∧ (o.2.2.2.2.2.1 (J + 1)).toInt = (fin.2.2.1 : Int) ∧ (∀ j, j ≠ J + 1 → o.2.2.2.2.2.1 j = many j) ∧ (∀ q, q < 20 * J → o.2.2.2.2.2.2.1 q = needs q ∧ o.2.2.2.2.2.2.2.2 q = places q) ∧ ∀ i, i < fin.2.2.1 → (o.2.2.2.2.2.2.1 (20 * J + i)).toInt = tx t (fin.2.2.2 i) ∧ (o.2.2.2.2.2.2.2.2 (20 * J + i)).toInt = (fin.2.2.2 i : Int)) := by
          intro y f24 hy
          have hnx := nx_le (T := tx t) hv1
          refine ih _ _ _ _ _ ⟨k + 1, nx (tx t) n w, fun i => if i = k then v else pl i, by omega, by rw [pk_us]; omega, hy, hnx.2, ?_, fun j hj9 => ?_, fun q hq => ?_, fun i hi => ?_⟩ (by rw [pk_us]; omega)
          · rw [show 21 - (k + 1) = 20 - k from by omega]; exact hs
          · rw [pk_un hj9]; exact hold j hj9
          · rw [pk_un (by omega), pk_un (by omega)]; exact hbef q hq
          · dsimp only
            by_cases e9 : i = k
            · rw [if_pos e9, e9, pk_us, pk_us]
              exact ⟨hyv.2.2.2, ho16a⟩
            · rw [if_neg e9, pk_un (by omega), pk_un (by omega)]
              exact hnew i (by omega)
        have hK : ∀ (c : Int32), ((w < n ∧ (tx t w = 33 ∨ tx t w = 63)) ↔ 0 < c.toInt) → ok (if sg_in id 540 = true then zl (upd f12 (20 * J + k) c) (fun f24 => (if sg_in id 540 = true then (if (f24 (20 * J + k)) ≤ 0 then (if sg_in jb 27 = true then (if sg_in jb 27 = true then zl (upd f10 (J + 1) ((f10 (J + 1)) + (1 : Int32))) (fun f25 => (rec (o21.2 + (0 : Int32)) f25 (upd f11 (20 * J + k) o16.1) f24 (upd f13 (20 * J + k) o16.2))) else none) else none) else (if sg_in jb 27 = true then (if sg_in jb 27 = true then zl (upd f10 (J + 1) ((f10 (J + 1)) + (1 : Int32))) (fun f26 => (rec (o21.2 + (1 : Int32)) f26 (upd f11 (20 * J + k) o16.1) f24 (upd f13 (20 * J + k) o16.2))) else none) else none)) else none)) else none) (fun o => o.2.1.toInt = (J : Int) + 1 ∧ o.2.2.2.1 = f4 ∧ o.2.2.2.2.1 = f8 ∧ (o.1.toInt = 0 ∨ o.1.toInt = 1) ∧ (o.1.toInt = 1 ↔ fin.1 = true) ∧ o.2.2.1.toInt = (fin.2.1 : Int) ∧ (o.2.2.2.2.2.1 (J + 1)).toInt = (fin.2.2.1 : Int) ∧ (∀ j, j ≠ J + 1 → o.2.2.2.2.2.1 j = many j) ∧ (∀ q, q < 20 * J → o.2.2.2.2.2.2.1 q = needs q ∧ o.2.2.2.2.2.2.2.2 q = places q) ∧ ∀ i, i < fin.2.2.1 → (o.2.2.2.2.2.2.1 (20 * J + i)).toInt = tx t (fin.2.2.2 i) ∧ (o.2.2.2.2.2.2.2.2 (20 * J + i)).toInt = (fin.2.2.2 i : Int)) := by
          intro c hc
          refine ok_in (by omega) (ok_zl (ok_in (by omega) ?_))
          simp only [pk_us]
          refine ok_le (fun e5 => ok_in (by omega) (ok_in (by omega) (ok_zl (hgo _ _ ?_)))) (fun e5 => ok_in (by omega) (ok_in (by omega) (ok_zl (hgo _ _ ?_))))
          · have : (o21.2 + (0 : Int32)).toInt = o21.2.toInt := by
              generalize o21.2 = y at *
              clear hs hold hbef hnew ih hend hid hidx ht hyv hide ho21 hgo hc
              first | omega | (simp only [i_add, i_sub, i_mul, l_add, l_sub, Int32.reduceToInt, Int64.reduceToInt, cl_n, true_or, or_true, true_and, and_true, and_self] at *; omega) | (simp only [i_add, i_sub, i_mul, l_add, l_sub, Int32.reduceToInt, Int64.reduceToInt, cl_n, true_or, or_true, true_and, and_true, and_self] at *; done)
            rw [this]
            unfold nx
            rw [if_neg (fun z => by have := hc.mp z; omega)]
            exact ho21a
          · have hwn : w < n := (hc.mpr (by omega)).1
            have : (o21.2 + (1 : Int32)).toInt = o21.2.toInt + 1 := by
              generalize o21.2 = y at *
              clear hs hold hbef hnew ih hend hid hidx ht hyv hide ho21 hgo hc
              first | omega | (simp only [i_add, i_sub, i_mul, l_add, l_sub, Int32.reduceToInt, Int64.reduceToInt, cl_n, true_or, or_true, true_and, and_true, and_self] at *; omega) | (simp only [i_add, i_sub, i_mul, l_add, l_sub, Int32.reduceToInt, Int64.reduceToInt, cl_n, true_or, or_true, true_and, and_true, and_self] at *; done)
            rw [this]
            unfold nx
            rw [if_pos (hc.mpr (by omega))]
            omega
        have hmark : (o21.1.toInt = 33 ↔ w < n ∧ tx t w = 33) ∧ (o21.1.toInt = 63 ↔ w < n ∧ tx t w = 63) := by
          rcases ho21.2 with q | ⟨q0, -, q⟩
          · omega
          · omega
        clear ho21
        refine ok_eq (fun e5 => ?_) (fun e5 => ok_eq (fun e6 => ?_) (fun e6 => ?_))
        · have := hK 1 ⟨fun _ => by decide, fun _ => by omega⟩
          simpa only [cl_n, eid] using this
        · have := hK 2 ⟨fun _ => by decide, fun _ => by omega⟩
          simpa only [cl_n, eid] using this
        · have := hK 0 ⟨fun _ => by omega, fun z => by omega⟩
          simpa only [cl_n, eid] using this
  · have hno : ¬ (s < n ∧ tx t s = 45) := by
      rintro ⟨q1, q2⟩
      rcases ho14.2 with q | ⟨-, -, q⟩
      · omega
      · omega
    refine ok_zc (uf_at ht hl hn ho14a) (fun o15 ho15 => ok_eq (fun e2 => ok_some ?_) (fun e2 => ok_some ?_))
    · have hyes : s < n ∧ tx t s = 59 := by
        rcases ho15 with q | ⟨q0, -, q⟩
        · omega
        · omega
      rw [if_pos hyes] at hs
      have ho141 : (o14.2 + (1 : Int32)).toInt = ((s + 1 : Nat) : Int) := by
        generalize o14.2 = y at *
        clear hs hold hbef hnew ih hend hidx ht e ho14 ho15
        first | omega | (simp only [i_add, i_sub, i_mul, l_add, l_sub, Int32.reduceToInt, Int64.reduceToInt, cl_n, true_or, or_true, true_and, and_true, and_self] at *; omega) | (simp only [i_add, i_sub, i_mul, l_add, l_sub, Int32.reduceToInt, Int64.reduceToInt, cl_n, true_or, or_true, true_and, and_true, and_self] at *; done)
      exact hend 1 (s + 1) 1 _ hs.symm h1 (Or.inr rfl) ho141
    · have hno2 : ¬ (s < n ∧ tx t s = 59) := by
        rintro ⟨q1, q2⟩
        rcases ho15 with q | ⟨-, -, q⟩
        · omega
        · omega
      rw [if_neg hno2, if_neg hno] at hs
      exact hend 0 s 0 _ hs.symm hz (Or.inl rfl) ho14a
