-- 76.jobs: needs and numbers of a job, read by themselves and by the class
def nx (T : Nat → Int) (n v : Nat) : Nat := if v < n ∧ (T v = 33 ∨ T v = 63) then v + 1 else v
def sn (T : Nat → Int) (n : Nat) : Nat → Nat → Nat → (Nat → Nat) → Bool × Nat × Nat × (Nat → Nat)
  | 0, k, a, pl => (false, a, k, pl)
  | f + 1, k, a, pl =>
    if sk T n a < n ∧ T (sk T n a) = 59 then (true, sk T n a + 1, k, pl)
    else if sk T n a < n ∧ T (sk T n a) = 45 then
      if k = 20 then (false, sk T n a, k, pl)
      else if sk T n (sk T n a + 1) < n ∧ 97 ≤ T (sk T n (sk T n a + 1)) ∧ T (sk T n (sk T n a + 1)) ≤ 122 then
        sn T n f (k + 1) (nx T n (sk T n (sk T n (sk T n a + 1) + 1))) (fun i => if i = k then sk T n (sk T n a + 1) else pl i)
      else (false, sk T n (sk T n a + 1), k, pl)
    else (false, sk T n a, k, pl)
def s4 (T : Nat → Int) (n : Nat) : Nat → Nat → Bool × Nat
  | 0, a => (true, a)
  | i + 1, a => if (nu T n (sk T n a)).1 = true then s4 T n i (nu T n (sk T n a)).2 else (false, (nu T n (sk T n a)).2)
theorem nx_le {T : Nat → Int} {n v : Nat} (h : v ≤ n) : v ≤ nx T n v ∧ nx T n v ≤ n := by
  unfold nx
  split <;> omega
theorem nu_le {T : Nat → Int} {n a : Nat} (h : a ≤ n) : a ≤ (nu T n a).2 ∧ (nu T n a).2 ≤ n := nuf_le T n 7 0 a h
theorem s4_le {T : Nat → Int} {n : Nat} : ∀ i a, a ≤ n → (s4 T n i a).2 ≤ n := by
  intro i
  induction i with
  | zero => intro a h; exact h
  | succ i ih =>
    intro a h
    unfold s4
    have h1 := nu_le (T := T) (sk_le (T := T) h)
    split
    · exact ih _ h1.2
    · exact h1.2
theorem sn_le {T : Nat → Int} {n : Nat} : ∀ f k a pl, a ≤ n → k ≤ 20 → (sn T n f k a pl).2.1 ≤ n ∧ k ≤ (sn T n f k a pl).2.2.1 ∧ (sn T n f k a pl).2.2.1 ≤ 20 ∧ ((∀ i, i < k → pl i < n ∧ 97 ≤ T (pl i) ∧ T (pl i) ≤ 122) → ∀ i, i < (sn T n f k a pl).2.2.1 → (sn T n f k a pl).2.2.2 i < n ∧ 97 ≤ T ((sn T n f k a pl).2.2.2 i) ∧ T ((sn T n f k a pl).2.2.2 i) ≤ 122) := by
  intro f
  induction f with
  | zero => intro k a pl h hk; exact ⟨h, Nat.le_refl _, hk, fun q => q⟩
  | succ f ih =>
    intro k a pl h hk
    have h1 := sk_le (T := T) h
    unfold sn
    split
    · rename_i q
      exact ⟨by show sk T n a + 1 ≤ n; omega, Nat.le_refl _, hk, fun q => q⟩
    · split
      · rename_i q
        split
        · exact ⟨h1, Nat.le_refl _, hk, fun q => q⟩
        · rename_i hk2
          have h2 := sk_le (T := T) (n := n) (a := sk T n a + 1) (by omega)
          split
          · rename_i q2
            have h3 := sk_le (T := T) (n := n) (a := sk T n (sk T n a + 1) + 1) (by omega)
            have h4 := nx_le (T := T) h3
            have h5 := ih (k + 1) (nx T n (sk T n (sk T n (sk T n a + 1) + 1))) (fun i => if i = k then sk T n (sk T n a + 1) else pl i) h4.2 (by omega)
            refine ⟨h5.1, by omega, h5.2.2.1, fun q => h5.2.2.2 (fun i hi => ?_)⟩
            by_cases e : i = k
            · simp only [e, if_true]; exact q2
            · simp only [e, if_false]; exact q i (by omega)
          · exact ⟨h2, Nat.le_refl _, hk, fun q => q⟩
      · exact ⟨h1, Nat.le_refl _, hk, fun q => q⟩
theorem tf_need {N n a : Nat} {pd len at0 jb : Int32} {t ow np cn : Nat → Int32} (hl : len.toInt = (n : Int)) (hn : n ≤ 2000) (ha : at0.toInt = (a : Int)) (han : a ≤ n) (hp : 0 ≤ pd.toInt ∧ pd.toInt < 520) (hN : 4000 ≤ N) : ok (md_Tex_parseNeed N pd len at0 t ow np cn jb) (fun o =>
    (¬ (sk (tx t) n a < n ∧ 97 ≤ tx t (sk (tx t) n a) ∧ tx t (sk (tx t) n a) ≤ 122) ∧ o.1.toInt = 0 ∧ o.2.2.1.toInt = (sk (tx t) n a : Int) ∧ o.2.1 = pd ∧ o.2.2.2.1 = ow ∧ o.2.2.2.2.1 = np) ∨
    ((sk (tx t) n a < n ∧ 97 ≤ tx t (sk (tx t) n a) ∧ tx t (sk (tx t) n a) ≤ 122) ∧ o.1.toInt = 1 ∧ o.2.1.toInt = pd.toInt + 1 ∧ o.2.2.1.toInt = (nx (tx t) n (sk (tx t) n (sk (tx t) n a + 1)) : Int) ∧ o.2.2.2.1 = upd ow pd.toInt.toNat jb ∧ ∃ w : Int32, w.toInt = (sk (tx t) n a : Int) ∧ o.2.2.2.2.1 = upd np pd.toInt.toNat w)) := by
  have hz : (0 : Int32).toInt = 0 := rfl
  have h520 : (520 : Int32).toInt = 520 := rfl
  have hm1 : (-1 : Int32).toInt = -1 := rfl
  have h33 : (33 : Int32).toInt = 33 := rfl
  have h63 : (63 : Int32).toInt = 63 := rfl
  have hp1 : (pd + (1 : Int32)).toInt = pd.toInt + 1 := by first | omega | (simp only [i_add, i_sub, i_mul, l_add, l_sub, Int32.reduceToInt, Int64.reduceToInt, cl_n, true_or, or_true, true_and, and_true, and_self] at *; omega) | (simp only [i_add, i_sub, i_mul, l_add, l_sub, Int32.reduceToInt, Int64.reduceToInt, cl_n, true_or, or_true, true_and, and_true, and_self] at *; done)
  unfold md_Tex_parseNeed
  simp only [cl_n]
  refine ok_zc (tf_skip hl hn ha han hN) (fun o1 ho1 => ok_zc (tf_letter hl hn ho1) (fun o2 ho2 => ok_eq (fun h0 => ok_some (Or.inl ⟨?_, rfl, ho1, rfl, rfl, rfl⟩)) (fun h0 => ?_)))
  · rcases ho2 with ho2 | ho2
    · exact ho2.2
    · omega
  have hlet : sk (tx t) n a < n ∧ 97 ≤ tx t (sk (tx t) n a) ∧ tx t (sk (tx t) n a) ≤ 122 := by
    rcases ho2 with ho2 | ho2
    · omega
    · exact ⟨ho2.1, ho2.2.1, ho2.2.2.1⟩
  generalize hs : sk (tx t) n a = s at ho1 ho2 hlet
  have ho11 : (o1 + (1 : Int32)).toInt = ((s + 1 : Nat) : Int) := by
    clear ho2
    first | omega | (simp only [i_add, i_sub, i_mul, l_add, l_sub, Int32.reduceToInt, Int64.reduceToInt, cl_n, true_or, or_true, true_and, and_true, and_self] at *; omega) | (simp only [i_add, i_sub, i_mul, l_add, l_sub, Int32.reduceToInt, Int64.reduceToInt, cl_n, true_or, or_true, true_and, and_true, and_self] at *; done)
  refine ok_lt (fun _ => ok_in (by omega) (ok_zl (ok_in (by omega) (ok_zl ?_)))) (fun h => by omega)
  refine ok_zc (tf_skip hl hn ho11 (by omega) hN) (fun o5 ho5 => ok_zc (tf_here hl hn ho5) (fun o6 ho6 => ok_zl ?_))
  have hv := sk_le (T := tx t) (n := n) (a := s + 1) (by omega)
  generalize hsv : sk (tx t) n (s + 1) = v at ho5 ho6 hv
  have ho51 : (o5 + (1 : Int32)).toInt = o5.toInt + 1 := by
    clear ho6 ho2
    first | omega | (simp only [i_add, i_sub, i_mul, l_add, l_sub, Int32.reduceToInt, Int64.reduceToInt, cl_n, true_or, or_true, true_and, and_true, and_self] at *; omega) | (simp only [i_add, i_sub, i_mul, l_add, l_sub, Int32.reduceToInt, Int64.reduceToInt, cl_n, true_or, or_true, true_and, and_true, and_self] at *; done)
  have hK : ∀ (c : Int32), ((v < n ∧ (tx t v = 33 ∨ tx t v = 63)) ↔ c.toInt ≠ 0) → ok (if sg_in pd 520 = true then zl (upd cn pd.toInt.toNat c) (fun f9 => (if sg_in pd 520 = true then (if (f9 pd.toInt.toNat) = 0 then (some ((1 : Int32), pd + (1 : Int32), o5, upd ow pd.toInt.toNat jb, upd np pd.toInt.toNat o1, f9)) else (some ((1 : Int32), pd + (1 : Int32), o5 + (1 : Int32), upd ow pd.toInt.toNat jb, upd np pd.toInt.toNat o1, f9))) else none)) else none) (fun o =>
    (¬ (s < n ∧ 97 ≤ tx t s ∧ tx t s ≤ 122) ∧ o.1.toInt = 0 ∧ o.2.2.1.toInt = (s : Int) ∧ o.2.1 = pd ∧ o.2.2.2.1 = ow ∧ o.2.2.2.2.1 = np) ∨
    ((s < n ∧ 97 ≤ tx t s ∧ tx t s ≤ 122) ∧ o.1.toInt = 1 ∧ o.2.1.toInt = pd.toInt + 1 ∧ o.2.2.1.toInt = (nx (tx t) n v : Int) ∧ o.2.2.2.1 = upd ow pd.toInt.toNat jb ∧ ∃ w : Int32, w.toInt = (s : Int) ∧ o.2.2.2.2.1 = upd np pd.toInt.toNat w)) := by
    intro c hc
    refine ok_in (by omega) (ok_zl (ok_in (by omega) ?_))
    simp only [pk_us]
    refine ok_eq (fun q => ok_some (Or.inr ⟨hlet, rfl, hp1, ?_, rfl, o1, ho1, rfl⟩)) (fun q => ok_some (Or.inr ⟨hlet, rfl, hp1, ?_, rfl, o1, ho1, rfl⟩))
    · show o5.toInt = _
      unfold nx
      rw [if_neg (fun z => hc.mp z (q.trans hz))]
      exact ho5
    · show (o5 + (1 : Int32)).toInt = _
      unfold nx
      rw [if_pos (hc.mpr (fun z => q (z.trans hz.symm)))]
      omega
  refine ok_eq (fun q => ok_zc (tf_here hl hn ho5) (fun o10 ho10 => ok_eq (fun q2 => hK _ ⟨fun z => by omega, fun z => absurd hz z⟩) (fun q2 => hK _ ⟨fun _ => by decide, fun _ => by omega⟩))) (fun q => hK _ ⟨fun _ => by decide, fun _ => by omega⟩)
theorem tf_needs {N n a p0 : Nat} {pd len at0 jb : Int32} {t ow np cn : Nat → Int32} (hl : len.toInt = (n : Int)) (hn : n ≤ 2000) (ha : at0.toInt = (a : Int)) (han : a ≤ n) (hpd : pd.toInt = (p0 : Int)) (hp0 : p0 ≤ 500) (hN : 4000 ≤ N) : ok (md_Tex_parseNeeds N pd len at0 t ow np cn jb) (fun o =>
    (o.1.toInt = 0 ∨ o.1.toInt = 1) ∧ (o.1.toInt = 1 ↔ (sn (tx t) n 21 0 a (fun _ => 0)).1 = true) ∧ o.2.2.1.toInt = ((sn (tx t) n 21 0 a (fun _ => 0)).2.1 : Int) ∧ o.2.1.toInt = (p0 : Int) + ((sn (tx t) n 21 0 a (fun _ => 0)).2.2.1 : Int) ∧ (∀ q, q < p0 → o.2.2.2.1 q = ow q ∧ o.2.2.2.2.1 q = np q) ∧ ∀ i, i < (sn (tx t) n 21 0 a (fun _ => 0)).2.2.1 → o.2.2.2.1 (p0 + i) = jb ∧ (o.2.2.2.2.1 (p0 + i)).toInt = ((sn (tx t) n 21 0 a (fun _ => 0)).2.2.2 i : Int)) := by
  have hz : (0 : Int32).toInt = 0 := rfl
  have h1 : (1 : Int32).toInt = 1 := rfl
  have h20 : (20 : Int32).toInt = 20 := rfl
  have h59 : (59 : Int32).toInt = 59 := rfl
  have h45 : (45 : Int32).toInt = 45 := rfl
  unfold md_Tex_parseNeeds
  generalize hfin : sn (tx t) n 21 0 a (fun _ => 0) = fin
  refine ok_fx6 (fun (x p y : Int32) (f g _ : Nat → Int32) => ∃ (k b : Nat) (pl : Nat → Nat), k ≤ 20 ∧ x.toInt = (k : Int) ∧ p.toInt = (p0 : Int) + (k : Int) ∧ y.toInt = (b : Int) ∧ b ≤ n ∧ sn (tx t) n (21 - k) k b pl = fin ∧ (∀ q, q < p0 → f q = ow q ∧ g q = np q) ∧ ∀ i, i < k → f (p0 + i) = jb ∧ (g (p0 + i)).toInt = (pl i : Int)) (fun (x _ _ : Int32) (_ _ _ : Nat → Int32) => (21 - x.toInt).toNat) ?_ _ _ _ _ _ _ _ ⟨0, a, fun _ => 0, by omega, hz, by omega, ha, han, hfin, fun q _ => ⟨rfl, rfl⟩, fun i hi => absurd hi (Nat.not_lt_zero _)⟩ (by omega)
  intro rec x p y f g c hI ih
  obtain ⟨k, b, pl, hk, hx, hp, hy, hb, hs, hold, hnew⟩ := hI
  rw [show 21 - k = (20 - k) + 1 from by omega] at hs
  unfold sn at hs
  have hsk := sk_le (T := tx t) hb
  unfold md_Tex_parseNeeds_F2
  refine ok_lt (fun h => by omega) (fun _ => ok_zc (tf_skip hl hn hy hb hN) (fun o7 ho7 => ok_zc (tf_here hl hn ho7) (fun o8 ho8 => ?_)))
  generalize hsv : sk (tx t) n b = s at ho7 ho8 hs hsk
  have ho71 : s < n → (o7 + (1 : Int32)).toInt = ((s + 1 : Nat) : Int) := by
    intro hsn
    clear ho8 hold hnew ih hs
    first | omega | (simp only [i_add, i_sub, i_mul, l_add, l_sub, Int32.reduceToInt, Int64.reduceToInt, cl_n, true_or, or_true, true_and, and_true, and_self] at *; omega) | (simp only [i_add, i_sub, i_mul, l_add, l_sub, Int32.reduceToInt, Int64.reduceToInt, cl_n, true_or, or_true, true_and, and_true, and_self] at *; done)
  have hend : ∀ (r w : Nat) (rr ww : Int32), fin = (decide (r = 1), w, k, pl) → rr.toInt = (r : Int) → (r = 0 ∨ r = 1) → ww.toInt = (w : Int) → ((rr.toInt = 0 ∨ rr.toInt = 1) ∧ (rr.toInt = 1 ↔ fin.1 = true) ∧ ww.toInt = (fin.2.1 : Int) ∧ p.toInt = (p0 : Int) + (fin.2.2.1 : Int) ∧ (∀ q, q < p0 → f q = ow q ∧ g q = np q) ∧ ∀ i, i < fin.2.2.1 → f (p0 + i) = jb ∧ (g (p0 + i)).toInt = (fin.2.2.2 i : Int)) := by
    intro r w rr ww hf hr hr2 hw
    rw [hf]
    refine ⟨by omega, ⟨fun q => decide_eq_true (by omega), fun q => by have := of_decide_eq_true q; omega⟩, hw, hp, hold, hnew⟩
  refine ok_eq (fun h0 => ?_) (fun h0 => ?_)
  · have hno : ¬ (s < n ∧ tx t s = 59) := by omega
    rw [if_neg hno] at hs
    refine ok_zc (tf_here hl hn ho7) (fun o9 ho9 => ok_eq (fun h2 => ok_some ?_) (fun h2 => ?_))
    · have hno2 : ¬ (s < n ∧ tx t s = 45) := by omega
      rw [if_neg hno2] at hs
      exact hend 0 s 0 o7 hs.symm hz (Or.inl rfl) ho7
    · have hyes : s < n ∧ tx t s = 45 := by omega
      rw [if_pos hyes] at hs
      refine ok_eq (fun h3 => ok_some ?_) (fun h3 => ?_)
      · rw [if_pos (by omega)] at hs
        exact hend 0 s 0 o7 hs.symm hz (Or.inl rfl) ho7
      · rw [if_neg (by omega)] at hs
        refine ok_zc (tf_need hl hn (ho71 hyes.1) (by omega) (by omega) hN) (fun o10 ho10 => ok_eq (fun h4 => ok_some ?_) (fun h4 => ?_))
        · rcases ho10 with ⟨q1, q2, q3, q4, q5, q6⟩ | ⟨-, q2, -⟩
          · rw [if_neg q1] at hs
            rw [q4, q5, q6]
            exact hend 0 _ 0 _ hs.symm hz (Or.inl rfl) q3
          · omega
        · rcases ho10 with ⟨-, q2, -⟩ | ⟨q1, q2, q3, q4, q5, w, q6, q7⟩
          · omega
          · rw [if_pos q1] at hs
            have hx1 : (x + 1).toInt = x.toInt + 1 := by
              clear ho8 ho9 hold hnew ih hs hend q7 q5
              first | omega | (simp only [i_add, i_sub, i_mul, l_add, l_sub, Int32.reduceToInt, Int64.reduceToInt, cl_n, true_or, or_true, true_and, and_true, and_self] at *; omega) | (simp only [i_add, i_sub, i_mul, l_add, l_sub, Int32.reduceToInt, Int64.reduceToInt, cl_n, true_or, or_true, true_and, and_true, and_self] at *; done)
            have hn3 := sk_le (T := tx t) (n := n) (a := sk (tx t) n (s + 1) + 1) (by omega)
            have hn4 := nx_le (T := tx t) hn3
            have ep : p.toInt.toNat = p0 + k := by omega
            refine ih _ _ _ _ _ _ ⟨k + 1, nx (tx t) n (sk (tx t) n (sk (tx t) n (s + 1) + 1)), fun i => if i = k then sk (tx t) n (s + 1) else pl i, by omega, by omega, by omega, q4, hn4.2, ?_, fun q hq => ?_, fun i hi => ?_⟩ (by omega)
            · rw [show 21 - (k + 1) = 20 - k from by omega]; exact hs
            · rw [q5, q7, pk_un (by omega), pk_un (by omega)]; exact hold q hq
            · rw [q5, q7, ep]
              by_cases e : i = k
              · dsimp only
                rw [e, pk_us, pk_us, if_pos rfl]; exact ⟨rfl, q6⟩
              · dsimp only
                rw [pk_un (by omega), pk_un (by omega), if_neg e]; exact hnew i (by omega)
  · have hyes : s < n ∧ tx t s = 59 := by omega
    rw [if_pos hyes] at hs
    exact ok_some (hend 1 (s + 1) 1 _ hs.symm h1 (Or.inr rfl) (ho71 hyes.1))
