-- 73.reach: the reference's search, and the ring that it keeps
def LR (S : BS) (sz : Int32) (pth came lev : Nat → Int32) : Prop := sz.toInt = (S.1 : Int) ∧ (∀ m, m < S.1 → pth m = S.2.1 m) ∧ (∀ x, x < 27 → ((lev x).toInt = -1 ↔ (S.2.2 x).toInt = -1) ∧ ((S.2.2 x).toInt ≠ -1 → came x = S.2.2 x ∧ 0 ≤ (lev x).toInt)) ∧ DP S (fun x => (lev x).toInt.toNat)
def ag (J : Nat) (nc : Nat → Int32) (nd : Nat → Nat → Int32) (many needs : Nat → Int32) : Prop := ∀ j, 1 ≤ j → j ≤ J → many j = nc j ∧ ∀ k : Nat, (k : Int) < (nc j).toInt → needs (20 * (j - 1) + k) = nd j k
def RH (nc : Nat → Int32) (nd : Nat → Nat → Int32) (a z : Int32) (came lev : Nat → Int32) (i D : Nat) : Prop := (∀ m, m < i → m < (bi nc nd (b0 a) m).1) ∧ ((bi nc nd (b0 a) i).2.2 z.toInt.toNat).toInt ≠ -1 ∧ ch (bi nc nd (b0 a) i).2.2 z D ∧ (∀ m, m ≤ D → ((bi nc nd (b0 a) i).2.2 (an (bi nc nd (b0 a) i).2.2 z m).toInt.toNat).toInt ≠ -1) ∧ (lev z.toInt.toNat).toInt = (D : Int) ∧ ∀ x, x < 27 → ((bi nc nd (b0 a) i).2.2 x).toInt ≠ -1 → came x = (bi nc nd (b0 a) i).2.2 x
theorem lr_step {J a u : Nat} {nc : Nat → Int32} {nd : Nat → Nat → Int32} {S : BS} {j sz : Int32} {pth came lev : Nat → Int32} (hn : nt J nc nd) (hI : BI J a S) (hj : 1 ≤ j.toInt ∧ j.toInt ≤ J ∧ (S.2.2 j.toInt.toNat).toInt ≠ -1) (hu : (u : Int) < (nc j.toInt.toNat).toInt) (hR : LR (bk nd j u S) sz pth came lev) :
    ((lev (nd j.toInt.toNat u).toInt.toNat).toInt ≠ -1 → LR (bk nd j (u + 1) S) sz pth came lev) ∧
    ((lev (nd j.toInt.toNat u).toInt.toNat).toInt = -1 → 0 ≤ sz.toInt ∧ sz.toInt ≤ 25 ∧ LR (bk nd j (u + 1) S) (sz + 1) (upd pth sz.toInt.toNat (nd j.toInt.toNat u)) (upd came (nd j.toInt.toNat u).toInt.toNat j) (upd lev (nd j.toInt.toNat u).toInt.toNat (lev j.toInt.toNat + 1))) := by
  have hJ := hn.1
  have hc := hn.2 j.toInt.toNat (by omega) (by omega)
  have hnd := hc.2.2 u hu
  obtain ⟨g1, -⟩ := bk_I hn hI hj u (by omega)
  have hE := bk_E (nd := nd) (j := j) (S := S) u
  have hjf : ((bk nd j u S).2.2 j.toInt.toNat).toInt ≠ -1 := by rw [hE.2.2 _ hj.2.2]; exact hj.2.2
  obtain ⟨r1, r2, r3, r4⟩ := hR
  have hq := r3 (nd j.toInt.toNat u).toInt.toNat (by omega)
  have hcd := cd_le (bk nd j u S).2.2 J
  have h2 := g1.2.1
  constructor
  · intro h0
    have hS : bk nd j (u + 1) S = bk nd j u S := by
      show ba j (nd j.toInt.toNat u) (bk nd j u S) = _
      unfold ba
      rw [if_neg (fun h9 => h0 (hq.1.mpr h9))]
    rw [hS]; exact ⟨r1, r2, r3, r4⟩
  · intro h0
    have hp0 := hq.1.mp h0
    have hS : bk nd j (u + 1) S = ((bk nd j u S).1 + 1, upd (bk nd j u S).2.1 (bk nd j u S).1 (nd j.toInt.toNat u), upd (bk nd j u S).2.2 (nd j.toInt.toNat u).toInt.toNat j) := by
      show ba j (nd j.toInt.toNat u) (bk nd j u S) = _
      unfold ba
      rw [if_pos hp0]
    have hcu := cd_upd (f := (bk nd j u S).2.2) (i := (nd j.toInt.toNat u).toInt.toNat) (v := j) (by omega) hp0 (by omega) J (by omega)
    have hcl := cd_le (upd (bk nd j u S).2.2 (nd j.toInt.toNat u).toInt.toNat j) J
    have hs1 : (sz + 1).toInt = sz.toInt + 1 := by first | omega | (simp only [i_add, i_sub, i_mul, l_add, l_sub, Int32.reduceToInt, Int64.reduceToInt, cl_n, true_or, or_true, true_and, and_true, and_self] at *; omega) | (simp only [i_add, i_sub, i_mul, l_add, l_sub, Int32.reduceToInt, Int64.reduceToInt, cl_n, true_or, or_true, true_and, and_true, and_self] at *; done)
    have hlj := (r3 j.toInt.toNat (by omega)).2 hjf
    have hdj := (r4 _ hjf).1
    have hdj9 : (lev j.toInt.toNat).toInt.toNat < (bk nd j u S).1 := hdj
    have hl1 : (lev j.toInt.toNat + 1).toInt = (lev j.toInt.toNat).toInt + 1 := by
      clear r2 r3 r4 hn hI g1 hE hcu hcl
      first | omega | (simp only [i_add, i_sub, i_mul, l_add, l_sub, Int32.reduceToInt, Int64.reduceToInt, cl_n, true_or, or_true, true_and, and_true, and_self] at *; omega) | (simp only [i_add, i_sub, i_mul, l_add, l_sub, Int32.reduceToInt, Int64.reduceToInt, cl_n, true_or, or_true, true_and, and_true, and_self] at *; done)
    have hjx : j.toInt.toNat ≠ (nd j.toInt.toNat u).toInt.toNat := fun e => hjf (by rw [e]; exact hp0)
    have es : sz.toInt.toNat = (bk nd j u S).1 := by omega
    refine ⟨by omega, by omega, ?_⟩
    have hDP : DP (bk nd j (u + 1) S) (fun x => (upd lev (nd j.toInt.toNat u).toInt.toNat (lev j.toInt.toNat + 1) x).toInt.toNat) := by
      refine ba_D g1 r4 ⟨hj.1, hjf⟩ _ (fun _ => ?_) (fun y hy => ?_)
      · show (upd lev (nd j.toInt.toNat u).toInt.toNat (lev j.toInt.toNat + 1) (nd j.toInt.toNat u).toInt.toNat).toInt.toNat = (lev j.toInt.toNat).toInt.toNat + 1
        rw [pk_us, hl1]
        have := hlj.2
        omega
      · have hne : y ≠ (nd j.toInt.toNat u).toInt.toNat := fun e => hy (by rw [e]; exact hp0)
        show (upd lev (nd j.toInt.toNat u).toInt.toNat (lev j.toInt.toNat + 1) y).toInt.toNat = (lev y).toInt.toNat
        rw [pk_un hne]
    rw [hS] at hDP ⊢
    refine ⟨?_, fun m hm => ?_, fun x hx => ?_, hDP⟩
    · show (sz + 1).toInt = (((bk nd j u S).1 + 1 : Nat) : Int)
      omega
    · show upd pth sz.toInt.toNat (nd j.toInt.toNat u) m = upd (bk nd j u S).2.1 (bk nd j u S).1 (nd j.toInt.toNat u) m
      rw [es]
      by_cases em : m = (bk nd j u S).1
      · rw [em, pk_us, pk_us]
      · rw [pk_un em, pk_un em]
        have hm9 : m < (bk nd j u S).1 + 1 := hm
        exact r2 m (by omega)
    · show ((upd lev (nd j.toInt.toNat u).toInt.toNat (lev j.toInt.toNat + 1) x).toInt = -1 ↔ (upd (bk nd j u S).2.2 (nd j.toInt.toNat u).toInt.toNat j x).toInt = -1) ∧ ((upd (bk nd j u S).2.2 (nd j.toInt.toNat u).toInt.toNat j x).toInt ≠ -1 → upd came (nd j.toInt.toNat u).toInt.toNat j x = upd (bk nd j u S).2.2 (nd j.toInt.toNat u).toInt.toNat j x ∧ 0 ≤ (upd lev (nd j.toInt.toNat u).toInt.toNat (lev j.toInt.toNat + 1) x).toInt)
      by_cases ex : x = (nd j.toInt.toNat u).toInt.toNat
      · rw [ex, pk_us, pk_us, pk_us, hl1]
        have := hlj.2
        refine ⟨⟨fun h => by omega, fun h => by omega⟩, fun _ => ⟨rfl, by omega⟩⟩
      · rw [pk_un ex, pk_un ex, pk_un ex]
        exact r3 x hx
theorem lr_reaches {N J : Nat} {nc : Nat → Int32} {nd : Nat → Nat → Int32} {a z n : Int32} {came lev pth needs many : Nat → Int32} (hn : nt J nc nd) (hg : ag J nc nd many needs) (ha : 1 ≤ a.toInt ∧ a.toInt ≤ J) (hz : 1 ≤ z.toInt ∧ z.toInt ≤ J) (hnJ : n.toInt = (J : Int)) (hN : 4000 ≤ N) :
    ok (md_B_reaches N 540 27 came lev pth needs many a z n) (fun o => (o.1.toInt = 0 ∧ ¬ RS (ED J nc nd) a.toInt.toNat z.toInt.toNat) ∨ (o.1.toInt = 1 ∧ RS (ED J nc nd) a.toInt.toNat z.toInt.toNat ∧ ∃ i D, RH nc nd a z o.2.1 o.2.2.1 i D)) := by
  have hz0 : (0 : Int32).toInt = 0 := rfl
  have hz1 : (1 : Int32).toInt = 1 := rfl
  have hm1 : (-1 : Int32).toInt = -1 := rfl
  have h26 : (26 : Int32).toInt = 26 := rfl
  have hJ := hn.1
  have hp : ∀ x : Int32, 0 ≤ x.toInt → x.toInt ≤ 1000 → (x + 1).toInt = x.toInt + 1 := fun x q1 q2 => by first | omega | (simp only [i_add, i_sub, i_mul, l_add, l_sub, Int32.reduceToInt, Int64.reduceToInt, cl_n, true_or, or_true, true_and, and_true, and_self] at *; omega) | (simp only [i_add, i_sub, i_mul, l_add, l_sub, Int32.reduceToInt, Int64.reduceToInt, cl_n, true_or, or_true, true_and, and_true, and_self] at *; done)
  -- the rounds
  have hA : ∀ (f5 f3 f4 : Nat → Int32), LR (b0 a) 1 f4 f5 f3 → ok (fx5 (md_B_reaches_F51 needs many z n N 540 27) N (0 : Int32) (1 : Int32) f5 f3 f4) (fun o => (o.1.toInt = 0 ∧ ¬ RS (ED J nc nd) a.toInt.toNat z.toInt.toNat) ∨ (o.1.toInt = 1 ∧ RS (ED J nc nd) a.toInt.toNat z.toInt.toNat ∧ ∃ i D, RH nc nd a z o.2.1 o.2.2.1 i D)) := by
    intro f5 f3 f4 hR0
    refine ok_fx5 (fun (x y : Int32) (cm lv pt : Nat → Int32) => ∃ i : Nat, x.toInt = (i : Int) ∧ (∀ m, m < i → m < (bi nc nd (b0 a) m).1) ∧ LR (bi nc nd (b0 a) i) y pt cm lv ∧ ∀ m, m < i → ((bi nc nd (b0 a) i).2.1 m).toInt ≠ z.toInt) (fun (x _ : Int32) (_ _ _ : Nat → Int32) => (27 - x.toInt).toNat) ?_ _ _ _ _ _ _ ⟨0, hz0, fun m hm => absurd hm (Nat.not_lt_zero _), hR0, fun m hm => absurd hm (Nat.not_lt_zero _)⟩ (by omega)
    intro rec x y cm lv pt hL ih
    obtain ⟨i, hx, hs, hR, hne⟩ := hL
    obtain ⟨g1, g2, g3⟩ := bi_I hn ha i hs
    have hcd := cd_le (bi nc nd (b0 a) i).2.2 J
    have h2 := g1.2.1
    have hy := hR.1
    unfold md_B_reaches_F51
    simp only [cl_n]
    refine ok_le (fun h9 => ok_some (Or.inl ⟨rfl, fun hr => ?_⟩)) (fun h9 => ?_)
    · have hf := bi_full g1 g2 (by omega) hr
      obtain ⟨⟨m, hm, e⟩, -⟩ := g1.2.2.2.2 _ hf
      exact hne m (by omega) (by rw [e]; omega)
    · have ex : x.toInt.toNat = i := by omega
      have hq9 := g1.2.2.2.1 i (by omega)
      have epi : pt x.toInt.toNat = (bi nc nd (b0 a) i).2.1 i := by rw [ex]; exact hR.2.1 i (by omega)
      refine ok_in (by omega) ?_
      refine ok_eq (fun h0 => ok_some (Or.inr ⟨rfl, ?_, ?_⟩)) (fun h0 => ?_)
      · rw [epi] at h0
        have e9 : ((bi nc nd (b0 a) i).2.1 i).toInt.toNat = z.toInt.toNat := by rw [h0]
        rw [← e9]
        exact bi_R hn ha i hs _ hq9.2.2
      · rw [epi] at h0
        have e9 : ((bi nc nd (b0 a) i).2.1 i).toInt.toNat = z.toInt.toNat := by rw [h0]
        have hf : ((bi nc nd (b0 a) i).2.2 z.toInt.toNat).toInt ≠ -1 := by rw [← e9]; exact hq9.2.2
        obtain ⟨hc, hcf⟩ := ch_of hJ g1 hR.2.2.2 hz hf
        have hl := (hR.2.2.1 z.toInt.toNat (by omega)).2 hf
        refine ⟨i, _, hs, hf, hc, hcf, ?_, fun x hx hfx => ((hR.2.2.1 x hx).2 hfx).1⟩
        have := hl.2
        show (lv z.toInt.toNat).toInt = (((lv z.toInt.toNat).toInt.toNat : Nat) : Int)
        omega
      · rw [epi] at h0
        generalize hjd : (bi nc nd (b0 a) i).2.1 i = j at hq9 h0
        have hc := hn.2 j.toInt.toNat (by omega) (by omega)
        have hgj := hg j.toInt.toNat (by omega) (by omega)
        have hx1 := hp x (by omega) (by omega)
        refine ok_fx5 (fun (k w : Int32) (cm lv pt : Nat → Int32) => ∃ u : Nat, k.toInt = (u : Int) ∧ (u : Int) ≤ (nc j.toInt.toNat).toInt ∧ LR (bk nd j u (bi nc nd (b0 a) i)) w pt cm lv) (fun (k _ : Int32) (_ _ _ : Nat → Int32) => (20 - k.toInt).toNat) ?_ _ _ _ _ _ _ ⟨0, hz0, by omega, hR⟩ (by omega)
        intro rec2 k w cm2 lv2 pt2 hL2 ih2
        obtain ⟨u, hk, hu, hR2⟩ := hL2
        unfold md_B_reaches_F78
        simp only [cl_n]
        rw [epi, hjd, hgj.1]
        refine ok_in (by omega) (ok_le (fun h8 => ih _ _ _ _ _ ⟨i + 1, by omega, fun m hm => ?_, ?_, fun m hm => ?_⟩ (by omega)) (fun h8 => ?_))
        · by_cases e : m = i
          · subst e; omega
          · exact hs m (by omega)
        · have eu : (nc j.toInt.toNat).toInt.toNat = u := by omega
          show LR (bk nd ((bi nc nd (b0 a) i).2.1 i) (nc ((bi nc nd (b0 a) i).2.1 i).toInt.toNat).toInt.toNat (bi nc nd (b0 a) i)) w pt2 cm2 lv2
          rw [hjd, eu]; exact hR2
        · have hE : BE (bi nc nd (b0 a) i) (bi nc nd (b0 a) (i + 1)) := bk_E _
          rw [hE.2.1 m (by omega)]
          by_cases e : m = i
          · rw [e, hjd]; exact h0
          · exact hne m (by omega)
        · have hnd := hc.2.2 u (by omega)
          have hi := nb_i (a := j) (x := k) (by omega) (by omega) (by omega) (by omega)
          have eidx : (20 * (j - 1) + k).toInt.toNat = 20 * (j.toInt.toNat - 1) + u := by rw [hi]; omega
          have hk1 := hp k (by omega) (by omega)
          have hst := lr_step hn g1 hq9 (by omega) hR2
          refine ok_in (by omega) (ok_zl ?_)
          rw [eidx, hgj.2 u (by omega)]
          refine ok_lt (fun h7 => by omega) (fun _ => ok_in (by omega) (ok_eq (fun h7 => ?_) (fun h7 => ih2 _ _ _ _ _ ⟨u + 1, by omega, by omega, hst.1 (fun h6 => h7 (h6.trans hm1.symm))⟩ (by omega))))
          obtain ⟨s1, s2, s3⟩ := hst.2 (h7.trans hm1)
          exact ok_in (by omega) (ok_in (by omega) (ok_zl (ok_in (by omega) (ok_zl (ok_in (by omega) (ok_zl (ih2 _ _ _ _ _ ⟨u + 1, by omega, by omega, s3⟩ (by omega))))))))
  unfold md_B_reaches
  refine ok_fx2 (fun (x : Int32) (f : Nat → Int32) => 0 ≤ x.toInt ∧ x.toInt ≤ 27 ∧ ∀ j : Nat, (j : Int) < x.toInt → f j = -1) (fun (x : Int32) (_ : Nat → Int32) => (27 - x.toInt).toNat) ?_ _ _ _ ⟨by omega, by omega, fun j h => by omega⟩ (by omega)
  intro rec x f hL ih
  unfold md_B_reaches_F3
  simp only [cl_n]
  refine ok_lt (fun h9 => ok_in (by omega) (ok_zl (ok_in (by omega) (ok_zl (ok_in (by omega) (ok_zl (hA _ _ _ ?_))))))) (fun h9 => ?_)
  · refine ⟨rfl, fun m hm => ?_, fun y hy => ?_, fun y hy => ⟨?_, Or.inl ⟨?_, ?_⟩⟩⟩
    · have hm9 : m < 1 := hm
      have : m = 0 := by omega
      subst this
      show upd pth (0 : Int32).toInt.toNat a 0 = a
      exact pk_us
    · show ((upd f a.toInt.toNat 0 y).toInt = -1 ↔ (upd (fun _ => (-1 : Int32)) a.toInt.toNat 0 y).toInt = -1) ∧ ((upd (fun _ => (-1 : Int32)) a.toInt.toNat 0 y).toInt ≠ -1 → upd came a.toInt.toNat 0 y = upd (fun _ => (-1 : Int32)) a.toInt.toNat 0 y ∧ 0 ≤ (upd f a.toInt.toNat 0 y).toInt)
      by_cases e : y = a.toInt.toNat
      · rw [e, pk_us, pk_us, pk_us]
        exact ⟨Iff.rfl, fun _ => ⟨rfl, by omega⟩⟩
      · rw [pk_un e, pk_un e, pk_un e, hL.2.2 y (by omega)]
        exact ⟨Iff.rfl, fun h => absurd hm1 h⟩
    · have hy9 : (upd (fun _ => (-1 : Int32)) a.toInt.toNat 0 y).toInt ≠ -1 := hy
      show (upd f a.toInt.toNat 0 y).toInt.toNat < 1
      by_cases e : y = a.toInt.toNat
      · rw [e, pk_us, hz0]; decide
      · rw [pk_un e] at hy9; exact absurd hm1 hy9
    · have hy9 : (upd (fun _ => (-1 : Int32)) a.toInt.toNat 0 y).toInt ≠ -1 := hy
      show (upd (fun _ => (-1 : Int32)) a.toInt.toNat 0 y).toInt = 0
      by_cases e : y = a.toInt.toNat
      · rw [e, pk_us]; rfl
      · rw [pk_un e] at hy9; exact absurd hm1 hy9
    · have hy9 : (upd (fun _ => (-1 : Int32)) a.toInt.toNat 0 y).toInt ≠ -1 := hy
      show (upd f a.toInt.toNat 0 y).toInt.toNat = 0
      by_cases e : y = a.toInt.toNat
      · rw [e, pk_us, hz0]; rfl
      · rw [pk_un e] at hy9; exact absurd hm1 hy9
  · have hx1 := hp x (by omega) (by omega)
    refine ok_in (by omega) (ok_zl (ih _ _ ⟨by omega, by omega, fun j hj => ?_⟩ (by omega)))
    by_cases e : j = x.toInt.toNat
    · rw [e, pk_us]
    · rw [pk_un e]; exact hL.2.2 j (by omega)
theorem an_came {p came : Nat → Int32} {z : Int32} {D : Nat} (hc : ch p z D) (hf : ∀ m, m ≤ D → (p (an p z m).toInt.toNat).toInt ≠ -1) (h : ∀ x, x < 27 → (p x).toInt ≠ -1 → came x = p x) : ∀ m, m ≤ D + 1 → an came z m = an p z m := by
  intro m
  induction m with
  | zero => intro _; rfl
  | succ m ih =>
    intro hm
    unfold an
    rw [ih (by omega)]
    have := hc.2.1 m (by omega)
    exact h _ (by omega) (hf m (by omega))
theorem lr_keep {N D : Nat} {rs z : Int32} {ring came lev : Nat → Int32} (hc : ch came z D) (hl : (lev z.toInt.toNat).toInt = (D : Int)) (hN : 4000 ≤ N) : ok (md_B_keep N rs ring came lev z) (fun o => o.1.toInt = (D : Int) + 1 ∧ ∀ m, m ≤ D → o.2 (D - m) = an came z m) := by
  have hz : (0 : Int32).toInt = 0 := rfl
  have hD := hc.1
  have hz0 : 1 ≤ z.toInt ∧ z.toInt ≤ 26 := hc.2.1 0 (Nat.zero_le _)
  unfold md_B_keep
  rw [cl_n]
  refine ok_in (by omega) (ok_zl ?_)
  have hy : (lev z.toInt.toNat + 1).toInt = (D : Int) + 1 := by first | omega | (simp only [i_add, i_sub, i_mul, l_add, l_sub, Int32.reduceToInt, Int64.reduceToInt, cl_n, true_or, or_true, true_and, and_true, and_self] at *; omega) | (simp only [i_add, i_sub, i_mul, l_add, l_sub, Int32.reduceToInt, Int64.reduceToInt, cl_n, true_or, or_true, true_and, and_true, and_self] at *; done)
  generalize lev z.toInt.toNat + 1 = y at hy
  have hy1 : (y - (1 : Int32)).toInt = (D : Int) := by first | omega | (simp only [i_add, i_sub, i_mul, l_add, l_sub, Int32.reduceToInt, Int64.reduceToInt, cl_n, true_or, or_true, true_and, and_true, and_self] at *; omega) | (simp only [i_add, i_sub, i_mul, l_add, l_sub, Int32.reduceToInt, Int64.reduceToInt, cl_n, true_or, or_true, true_and, and_true, and_self] at *; done)
  refine ok_fx3 (fun (i x : Int32) (f : Nat → Int32) => ∃ m : Nat, m ≤ D + 1 ∧ i.toInt = (D : Int) - (m : Int) ∧ x = an came z m ∧ ∀ u : Nat, u < m → f (D - u) = an came z u) (fun (i _ : Int32) (_ : Nat → Int32) => (i.toInt + 1).toNat) ?_ _ _ _ _ ⟨0, by omega, by omega, rfl, fun u hu => absurd hu (Nat.not_lt_zero _)⟩ (by omega)
  intro rec i x f hI ih
  obtain ⟨m, hm, hi, hx, hf⟩ := hI
  clear hN hy1
  unfold md_B_keep_F21
  refine ok_lt (fun h0 => ok_some ⟨hy, fun u hu => hf u (by omega)⟩) (fun hi0 => ?_)
  have hmD : m ≤ D := by omega
  have hx9 : 1 ≤ x.toInt ∧ x.toInt ≤ 26 := by rw [hx]; exact hc.2.1 m hmD
  have hi1 : (i + (-1)).toInt = i.toInt - 1 := by first | omega | (simp only [i_add, i_sub, i_mul, l_add, l_sub, Int32.reduceToInt, Int64.reduceToInt, cl_n, true_or, or_true, true_and, and_true, and_self] at *; omega) | (simp only [i_add, i_sub, i_mul, l_add, l_sub, Int32.reduceToInt, Int64.reduceToInt, cl_n, true_or, or_true, true_and, and_true, and_self] at *; done)
  have hib : 0 ≤ i.toInt ∧ i.toInt < (27 : Nat) := by omega
  have hxb : 0 ≤ x.toInt ∧ x.toInt < (27 : Nat) := by omega
  have hmu : (i.toInt - 1 + 1).toNat < (i.toInt + 1).toNat := by omega
  have hi2 : i.toInt - 1 = (D : Int) - ((m + 1 : Nat) : Int) := by omega
  have hin : i.toInt.toNat = D - m := by omega
  refine ok_in hib (ok_zl (ok_in hxb (ih _ _ _ ⟨m + 1, Nat.succ_le_succ hmD, hi1.trans hi2, ?_, fun u hu => ?_⟩ (by rw [hi1]; exact hmu))))
  · rw [cl_n, hx]; rfl
  · rw [cl_n, hin]
    by_cases e2 : u = m
    · rw [e2, pk_us, hx]
    · have hne : D - u ≠ D - m := by
        clear ih hf hx hc
        omega
      have hlt : u < m := by
        clear ih hf hx hc
        omega
      rw [pk_un hne]; exact hf u hlt
-- both found the same ring
def RE (lenA : Int32) (row : Nat → Int32) (rs : Int32) (ring : Nat → Int32) : Prop := lenA = rs ∧ 0 ≤ lenA.toInt ∧ lenA.toInt ≤ 26 ∧ ∀ i : Nat, (i : Int) < lenA.toInt → row i = ring i
theorem re_of {nc : Nat → Int32} {nd : Nat → Nat → Int32} {a z lenA rs : Int32} {row ring came lev : Nat → Int32} {i D k E : Nat}
    (h1 : ch (bi nc nd (b0 a) i).2.2 z D) (h2 : ∀ m, m ≤ D → ((bi nc nd (b0 a) i).2.2 (an (bi nc nd (b0 a) i).2.2 z m).toInt.toNat).toInt ≠ -1) (h3 : lenA.toInt = (D : Int) + 1) (h4 : ∀ m, m ≤ D → row (D - m) = an (bi nc nd (b0 a) i).2.2 z m)
    (g : RH nc nd a z came lev k E) (g3 : rs.toInt = (E : Int) + 1) (g4 : ∀ m, m ≤ E → ring (E - m) = an came z m) : RE lenA row rs ring := by
  obtain ⟨-, -, q1, q2, -, q3⟩ := g
  have hanc := an_came q1 q2 q3
  have hsame : D = E ∧ ∀ m, m ≤ D + 1 → an (bi nc nd (b0 a) k).2.2 z m = an (bi nc nd (b0 a) i).2.2 z m := by
    rcases Nat.le_total i k with hik | hik
    · have ha := an_ext (bi_E (nc := nc) (nd := nd) (S0 := b0 a) hik) h2
      exact ⟨ch_one h1 q1 ha, ha⟩
    · have ha := an_ext (bi_E (nc := nc) (nd := nd) (S0 := b0 a) hik) q2
      have e := ch_one q1 h1 ha
      subst e
      exact ⟨rfl, fun m hm => (ha m hm).symm⟩
  obtain ⟨e, hs⟩ := hsame
  subst e
  have hD := h1.1
  refine ⟨Int32.toInt_inj.mp (h3.trans g3.symm), by omega, by omega, fun u hu => ?_⟩
  have a1 := h4 (D - u) (by omega)
  have a2 := g4 (D - u) (by omega)
  rw [show D - (D - u) = u from by omega] at a1 a2
  rw [a1, a2, hanc _ (by omega), hs _ (by omega)]
