-- 74.needs: one need more, in class and reference
def CL (J : Nat) (nc : Nat → Int32) (nd : Nat → Nat → Int32) (al : Nat → Int32) : Prop := ∀ a b : Nat, 1 ≤ a → a ≤ J → 1 ≤ b → b ≤ J → (bt (al a) b = true ↔ RP (ED J nc nd) a b)
def NR (jA : Int32) (nc : Nat → Int32) (nd : Nat → Nat → Int32) (al : Nat → Int32) (jB : Int32) (many needs : Nat → Int32) : Prop :=
  jA = jB ∧ 0 ≤ jA.toInt ∧ jA.toInt ≤ 26 ∧ rg nc 27 0 20 ∧ gg nd 27 20 0 26 ∧ nt jA.toInt.toNat nc nd ∧ ag jA.toInt.toNat nc nd many needs ∧ CL jA.toInt.toNat nc nd al
theorem NR.nb {jA jB : Int32} {nc al many needs : Nat → Int32} {nd : Nat → Nat → Int32} (h : NR jA nc nd al jB many needs) : nb jB many needs := by
  obtain ⟨rfl, h1, h2, -, -, h3, h4, -⟩ := h
  intro j q1 q2
  have a1 := h3.2 j q1 (by omega)
  have a2 := h4 j q1 (by omega)
  rw [a2.1]
  refine ⟨a1.1, a1.2.1, fun k hk => ?_⟩
  rw [a2.2 k hk]
  have := a1.2.2 k hk
  omega
theorem cl_rs {J : Nat} {nc al : Nat → Int32} {nd : Nat → Nat → Int32} (h : CL J nc nd al) {a b : Nat} (ha : 1 ≤ a ∧ a ≤ J) (hb : 1 ≤ b ∧ b ≤ J) : RS (ED J nc nd) a b ↔ (a = b ∨ bt (al a) b = true) := by
  rw [h a b ha.1 ha.2 hb.1 hb.2]
  constructor
  · intro q; exact q.cases
  · rintro (q | q)
    · subst q; exact RS.rfl
    · exact q.rs
-- the net with one need more
theorem gup_s {g : Nat → Nat → Int32} {i k : Nat} {v : Int32} : gup g i k v i k = v := by
  unfold gup
  rw [if_pos rfl, pk_us]
theorem gup_n {g : Nat → Nat → Int32} {i k a b : Nat} {v : Int32} (h : a ≠ i ∨ b ≠ k) : gup g i k v a b = g a b := by
  unfold gup
  by_cases e : a = i
  · rw [if_pos e]
    rcases h with h | h
    · exact absurd e h
    · rw [pk_un h, e]
  · rw [if_neg e]
theorem ed_more {J : Nat} {nc : Nat → Int32} {nd : Nat → Nat → Int32} {x : Nat} {y : Int32} (hx : 1 ≤ x ∧ x ≤ J) (hc : 0 ≤ (nc x).toInt ∧ (nc x).toInt < 20) (hy : 0 ≤ y.toInt) : ∀ a b, ED J (upd nc x (nc x + 1)) (gup nd x (nc x).toInt.toNat y) a b ↔ ED J nc nd a b ∨ (a = x ∧ b = y.toInt.toNat) := by
  have hc1 : (nc x + 1).toInt = (nc x).toInt + 1 := by first | omega | (simp only [i_add, i_sub, i_mul, l_add, l_sub, Int32.reduceToInt, Int64.reduceToInt, cl_n, true_or, or_true, true_and, and_true, and_self] at *; omega) | (simp only [i_add, i_sub, i_mul, l_add, l_sub, Int32.reduceToInt, Int64.reduceToInt, cl_n, true_or, or_true, true_and, and_true, and_self] at *; done)
  intro a b
  constructor
  · rintro ⟨h1, h2, k, h3, h4⟩
    by_cases e : a = x
    · subst e
      rw [pk_us, hc1] at h3
      by_cases e2 : k = (nc a).toInt.toNat
      · subst e2
        rw [gup_s] at h4
        exact Or.inr ⟨rfl, by omega⟩
      · rw [gup_n (Or.inr e2)] at h4
        exact Or.inl ⟨h1, h2, k, by omega, h4⟩
    · rw [pk_un e] at h3
      rw [gup_n (Or.inl e)] at h4
      exact Or.inl ⟨h1, h2, k, h3, h4⟩
  · rintro (⟨h1, h2, k, h3, h4⟩ | ⟨h1, h2⟩)
    · by_cases e : a = x
      · subst e
        refine ⟨h1, h2, k, by rw [pk_us, hc1]; omega, ?_⟩
        rw [gup_n (Or.inr (by omega))]; exact h4
      · refine ⟨h1, h2, k, by rw [pk_un e]; exact h3, ?_⟩
        rw [gup_n (Or.inl e)]; exact h4
    · subst h1; subst h2
      refine ⟨hx.1, hx.2, (nc a).toInt.toNat, by rw [pk_us, hc1]; omega, ?_⟩
      rw [gup_s]; omega
theorem nt_more {J : Nat} {nc : Nat → Int32} {nd : Nat → Nat → Int32} {x : Nat} {y : Int32} (h : nt J nc nd) (hx : 1 ≤ x ∧ x ≤ J) (hc : 0 ≤ (nc x).toInt ∧ (nc x).toInt < 20) (hy : 1 ≤ y.toInt ∧ y.toInt ≤ J) : nt J (upd nc x (nc x + 1)) (gup nd x (nc x).toInt.toNat y) := by
  have hc1 : (nc x + 1).toInt = (nc x).toInt + 1 := by
    clear h
    first | omega | (simp only [i_add, i_sub, i_mul, l_add, l_sub, Int32.reduceToInt, Int64.reduceToInt, cl_n, true_or, or_true, true_and, and_true, and_self] at *; omega) | (simp only [i_add, i_sub, i_mul, l_add, l_sub, Int32.reduceToInt, Int64.reduceToInt, cl_n, true_or, or_true, true_and, and_true, and_self] at *; done)
  refine ⟨h.1, fun j h1 h2 => ?_⟩
  have h9 := h.2 j h1 h2
  by_cases e : j = x
  · subst e
    rw [pk_us, hc1]
    refine ⟨by omega, by omega, fun k hk => ?_⟩
    by_cases e2 : k = (nc j).toInt.toNat
    · rw [e2, gup_s]; exact hy
    · rw [gup_n (Or.inr e2)]; exact h9.2.2 k (by omega)
  · rw [pk_un e]
    refine ⟨h9.1, h9.2.1, fun k hk => ?_⟩
    rw [gup_n (Or.inl e)]; exact h9.2.2 k hk
theorem cl_more {J : Nat} {nc al al' : Nat → Int32} {nd : Nat → Nat → Int32} {x : Nat} {y : Int32} (h : CL J nc nd al) (hJ : J ≤ 26) (hx : 1 ≤ x ∧ x ≤ J) (hc : 0 ≤ (nc x).toInt ∧ (nc x).toInt < 20) (hy : 1 ≤ y.toInt ∧ y.toInt ≤ J)
    (hb : ∀ a : Nat, 1 ≤ a → a ≤ J → ∀ b : Nat, b < 32 → bt (al' a) b = (bt (al a) b || ((decide (a = x) || bt (al a) x) && (bt (al y.toInt.toNat) b || decide (b = y.toInt.toNat))))) : CL J (upd nc x (nc x + 1)) (gup nd x (nc x).toInt.toNat y) al' := by
  intro a b a1 a2 b1 b2
  have hy9 : 1 ≤ y.toInt.toNat ∧ y.toInt.toNat ≤ J := by omega
  rw [RP.more (ed_more hx hc (by omega)), hb a a1 a2 b (by omega), cl_rs h ⟨a1, a2⟩ hx, cl_rs h hy9 ⟨b1, b2⟩, ← h a b a1 a2 b1 b2]
  simp only [Bool.or_eq_true, Bool.and_eq_true, decide_eq_true_eq]
  constructor
  · rintro (q | ⟨q1, q2⟩)
    · exact Or.inl q
    · exact Or.inr ⟨q1, q2.elim (fun z => Or.inr z) (fun z => Or.inl z.symm)⟩
  · rintro (q | ⟨q1, q2⟩)
    · exact Or.inl q
    · exact Or.inr ⟨q1, q2.elim (fun z => Or.inr z.symm) (fun z => Or.inl z)⟩
theorem ag_more {J : Nat} {nc many needs : Nat → Int32} {nd : Nat → Nat → Int32} {x : Nat} {y : Int32} (h : ag J nc nd many needs) (hn : nt J nc nd) (hx : 1 ≤ x ∧ x ≤ J) (hc : 0 ≤ (nc x).toInt ∧ (nc x).toInt < 20) : ag J (upd nc x (nc x + 1)) (gup nd x (nc x).toInt.toNat y) (upd many x (many x + 1)) (upd needs (20 * (x - 1) + (nc x).toInt.toNat) y) := by
  have hc1 : (nc x + 1).toInt = (nc x).toInt + 1 := by
    clear h hn
    first | omega | (simp only [i_add, i_sub, i_mul, l_add, l_sub, Int32.reduceToInt, Int64.reduceToInt, cl_n, true_or, or_true, true_and, and_true, and_self] at *; omega) | (simp only [i_add, i_sub, i_mul, l_add, l_sub, Int32.reduceToInt, Int64.reduceToInt, cl_n, true_or, or_true, true_and, and_true, and_self] at *; done)
  intro j h1 h2
  have h9 := h j h1 h2
  have h8 := hn.2 j h1 h2
  by_cases e : j = x
  · subst e
    rw [pk_us, pk_us, h9.1]
    refine ⟨rfl, fun k hk => ?_⟩
    rw [hc1] at hk
    by_cases e2 : k = (nc j).toInt.toNat
    · rw [e2, gup_s, pk_us]
    · rw [gup_n (Or.inr e2), pk_un (by omega)]; exact h9.2 k (by omega)
  · rw [pk_un e, pk_un e]
    refine ⟨h9.1, fun k hk => ?_⟩
    rw [gup_n (Or.inl e), pk_un (by omega)]; exact h9.2 k hk
theorem nr_more {jA jB y : Int32} {nc al al' many needs : Nat → Int32} {nd : Nat → Nat → Int32} {x : Nat} (h : NR jA nc nd al jB many needs) (hx : 1 ≤ x ∧ x ≤ jA.toInt.toNat) (hc : 0 ≤ (nc x).toInt ∧ (nc x).toInt < 20) (hy : 1 ≤ y.toInt ∧ y.toInt ≤ jA.toInt)
    (hb : ∀ a : Nat, 1 ≤ a → (a : Int) ≤ jA.toInt → ∀ b : Nat, b < 32 → bt (al' a) b = (bt (al a) b || ((decide (a = x) || bt (al a) x) && (bt (al y.toInt.toNat) b || decide (b = y.toInt.toNat))))) : NR jA (upd nc x (nc x + 1)) (gup nd x (nc x).toInt.toNat y) al' jB (upd many x (many x + 1)) (upd needs (20 * (x - 1) + (nc x).toInt.toNat) y) := by
  obtain ⟨h1, h2, h3, h4, h5, h6, h7, h8⟩ := h
  have hc1 : (nc x + 1).toInt = (nc x).toInt + 1 := by
    clear h4 h5 h6 h7 h8 hb
    first | omega | (simp only [i_add, i_sub, i_mul, l_add, l_sub, Int32.reduceToInt, Int64.reduceToInt, cl_n, true_or, or_true, true_and, and_true, and_self] at *; omega) | (simp only [i_add, i_sub, i_mul, l_add, l_sub, Int32.reduceToInt, Int64.reduceToInt, cl_n, true_or, or_true, true_and, and_true, and_self] at *; done)
  exact ⟨h1, h2, h3, rg_upd h4 (by omega), gg_up h5 (by omega), nt_more h6 hx hc (by omega), ag_more h7 h6 hx hc, cl_more h8 (by omega) hx hc (by omega) (fun a q1 q2 b q3 => hb a q1 (by omega) b q3)⟩
-- both calls
theorem nd_A {N : Nat} {lenA jA jB x y c : Int32} {row q bf nc al many needs : Nat → Int32} {nd g2 : Nat → Nat → Int32} (h : NR jA nc nd al jB many needs) (hN : 4000 ≤ N) :
    ok (md_A_needs N lenA row q bf jA nc nd g2 al x y c) (fun o =>
      (¬ (1 ≤ x.toInt ∧ x.toInt ≤ jA.toInt ∧ 1 ≤ y.toInt ∧ y.toInt ≤ jA.toInt ∧ 0 ≤ c.toInt ∧ c.toInt ≤ 2 ∧ (nc x.toInt.toNat).toInt < 20) ∧ o.1.toInt = -1 ∧ o.2.1 = lenA ∧ o.2.2.1 = row ∧ o.2.2.2.2.2.1 = nc ∧ o.2.2.2.2.2.2.1 = nd ∧ o.2.2.2.2.2.2.2.2 = al) ∨
      ((1 ≤ x.toInt ∧ x.toInt ≤ jA.toInt ∧ 1 ≤ y.toInt ∧ y.toInt ≤ jA.toInt ∧ 0 ≤ c.toInt ∧ c.toInt ≤ 2 ∧ (nc x.toInt.toNat).toInt < 20) ∧
        ((RS (ED jA.toInt.toNat nc nd) y.toInt.toNat x.toInt.toNat ∧ o.1.toInt = 0 ∧ o.2.2.2.2.2.1 = nc ∧ o.2.2.2.2.2.2.1 = nd ∧ o.2.2.2.2.2.2.2.2 = al ∧ ∃ (i D : Nat), ch (bi nc nd (b0 y) i).2.2 x D ∧ (∀ m, m ≤ D → ((bi nc nd (b0 y) i).2.2 (an (bi nc nd (b0 y) i).2.2 x m).toInt.toNat).toInt ≠ -1) ∧ o.2.1.toInt = (D : Int) + 1 ∧ ∀ m, m ≤ D → o.2.2.1 (D - m) = an (bi nc nd (b0 y) i).2.2 x m) ∨
         (¬ RS (ED jA.toInt.toNat nc nd) y.toInt.toNat x.toInt.toNat ∧ o.1.toInt = 1 ∧ o.2.1 = lenA ∧ o.2.2.1 = row ∧ o.2.2.2.2.2.1 = upd nc x.toInt.toNat (nc x.toInt.toNat + 1) ∧ o.2.2.2.2.2.2.1 = gup nd x.toInt.toNat (nc x.toInt.toNat).toInt.toNat y ∧ ∀ a : Nat, 1 ≤ a → (a : Int) ≤ jA.toInt → ∀ b : Nat, b < 32 → bt (o.2.2.2.2.2.2.2.2 a) b = (bt (al a) b || ((decide (a = x.toInt.toNat) || bt (al a) x.toInt.toNat) && (bt (al y.toInt.toNat) b || decide (b = y.toInt.toNat)))))))) := by
  have hz : (0 : Int32).toInt = 0 := rfl
  have h2 : (2 : Int32).toInt = 2 := rfl
  have h20 : (20 : Int32).toInt = 20 := rfl
  have hm1 : (-1 : Int32).toInt = -1 := rfl
  obtain ⟨h1, hj1, hj2, hnc, hnd, hnt, hag, hcl⟩ := h
  unfold md_A_needs
  simp only [cl_n]
  refine ok_zc sf_has (fun o1 ho1 => ok_eq (fun e1 => ok_some (Or.inl ⟨fun v => by omega, rfl, rfl, rfl, rfl, rfl, rfl⟩)) (fun e1 => ?_))
  refine ok_zc sf_has (fun o2 ho2 => ok_eq (fun e2 => ok_some (Or.inl ⟨fun v => by omega, rfl, rfl, rfl, rfl, rfl, rfl⟩)) (fun e2 => ?_))
  refine ok_lt (fun e3 => ok_some (Or.inl ⟨fun v => by omega, rfl, rfl, rfl, rfl, rfl, rfl⟩)) (fun e3 => ok_le (fun e4 => ?_) (fun e4 => ok_some (Or.inl ⟨fun v => by omega, rfl, rfl, rfl, rfl, rfl, rfl⟩)))
  refine ok_in (by omega) (ok_lt (fun e5 => ?_) (fun e5 => ok_some (Or.inl ⟨fun v => by omega, rfl, rfl, rfl, rfl, rfl, rfl⟩)))
  have hx : 1 ≤ x.toInt ∧ x.toInt ≤ jA.toInt := by omega
  have hy : 1 ≤ y.toInt ∧ y.toInt ≤ jA.toInt := by omega
  have hcc := hnc x.toInt.toNat (by omega)
  have hv : 1 ≤ x.toInt ∧ x.toInt ≤ jA.toInt ∧ 1 ≤ y.toInt ∧ y.toInt ≤ jA.toInt ∧ 0 ≤ c.toInt ∧ c.toInt ≤ 2 ∧ (nc x.toInt.toNat).toInt < 20 := by omega
  have hrs := cl_rs hcl (a := y.toInt.toNat) (b := x.toInt.toNat) (by omega) (by omega)
  clear ho1 ho2 e1 e2
  refine ok_zc (gf_closes (by omega) (by omega)) (fun o3 ho3 => ok_eq (fun e6 => ?_) (fun e6 => ?_))
  · have hno : ¬ RS (ED jA.toInt.toNat nc nd) y.toInt.toNat x.toInt.toNat := by
      rw [hrs]
      rcases ho3 with ho3 | ho3
      · rintro (q | q)
        · omega
        · rw [ho3.2.2] at q; cases q
      · omega
    exact ok_zc (gf_addNeed ⟨hj1, hj2⟩ (by omega) (by omega) ⟨hcc.1, by omega⟩ hN) (fun o4 ho4 => ok_some (Or.inr ⟨hv, Or.inr ⟨hno, rfl, rfl, rfl, ho4.1, ho4.2.1, ho4.2.2⟩⟩))
  · have hyes : RS (ED jA.toInt.toNat nc nd) y.toInt.toNat x.toInt.toNat := by
      rw [hrs]
      rcases ho3 with ho3 | ho3
      · omega
      · rcases ho3.2 with q | q
        · exact Or.inl (by omega)
        · exact Or.inr q
    refine ok_zc (cr_find hnt (by omega) (by omega) hyes hN) (fun o5 ho5 => ok_some (Or.inr ⟨hv, Or.inl ⟨hyes, rfl, rfl, rfl, rfl, ?_⟩⟩))
    obtain ⟨i, D, -, -, q1, q2, q3, q4⟩ := ho5
    exact ⟨i, D, q1, q2, q3, q4⟩
theorem nd_B {N : Nat} {cd0 rs jA jB x y c : Int32} {ring came lev pth nc al many needs cnd : Nat → Int32} {nd : Nat → Nat → Int32} (h : NR jA nc nd al jB many needs) (hN : 4000 ≤ N) :
    ok (md_B_needs N cd0 jB rs many needs cnd ring came lev pth x y c) (fun o =>
      (¬ (1 ≤ x.toInt ∧ x.toInt ≤ jA.toInt ∧ 1 ≤ y.toInt ∧ y.toInt ≤ jA.toInt ∧ 0 ≤ c.toInt ∧ c.toInt ≤ 2 ∧ (nc x.toInt.toNat).toInt < 20) ∧ o.1.toInt = -1 ∧ o.2.2.1 = rs ∧ o.2.2.2.2.2.2.1 = ring ∧ o.2.2.2.1 = many ∧ o.2.2.2.2.1 = needs) ∨
      ((1 ≤ x.toInt ∧ x.toInt ≤ jA.toInt ∧ 1 ≤ y.toInt ∧ y.toInt ≤ jA.toInt ∧ 0 ≤ c.toInt ∧ c.toInt ≤ 2 ∧ (nc x.toInt.toNat).toInt < 20) ∧
        ((RS (ED jA.toInt.toNat nc nd) y.toInt.toNat x.toInt.toNat ∧ o.1.toInt = 0 ∧ o.2.2.2.1 = many ∧ o.2.2.2.2.1 = needs ∧ ∃ (i D : Nat) (cm lv : Nat → Int32), RH nc nd y x cm lv i D ∧ o.2.2.1.toInt = (D : Int) + 1 ∧ ∀ m, m ≤ D → o.2.2.2.2.2.2.1 (D - m) = an cm x m) ∨
         (¬ RS (ED jA.toInt.toNat nc nd) y.toInt.toNat x.toInt.toNat ∧ o.1.toInt = 1 ∧ o.2.2.1 = rs ∧ o.2.2.2.2.2.2.1 = ring ∧ o.2.2.2.1 = upd many x.toInt.toNat (many x.toInt.toNat + 1) ∧ o.2.2.2.2.1 = upd needs (20 * (x.toInt.toNat - 1) + (nc x.toInt.toNat).toInt.toNat) y)))) := by
  have hz : (0 : Int32).toInt = 0 := rfl
  have h2 : (2 : Int32).toInt = 2 := rfl
  have h20 : (20 : Int32).toInt = 20 := rfl
  have hm1 : (-1 : Int32).toInt = -1 := rfl
  obtain ⟨h1, hj1, hj2, hnc, hnd, hnt, hag, hcl⟩ := h
  subst h1
  unfold md_B_needs
  simp only [cl_n]
  refine ok_zc rf_isJob (fun o1 ho1 => ok_eq (fun e1 => ok_some (Or.inl ⟨fun v => by omega, rfl, rfl, rfl, rfl, rfl⟩)) (fun e1 => ?_))
  refine ok_zc rf_isJob (fun o2 ho2 => ok_eq (fun e2 => ok_some (Or.inl ⟨fun v => by omega, rfl, rfl, rfl, rfl, rfl⟩)) (fun e2 => ?_))
  refine ok_lt (fun e3 => ok_some (Or.inl ⟨fun v => by omega, rfl, rfl, rfl, rfl, rfl⟩)) (fun e3 => ok_lt (fun e4 => ok_some (Or.inl ⟨fun v => by omega, rfl, rfl, rfl, rfl, rfl⟩)) (fun e4 => ?_))
  have hx : 1 ≤ x.toInt ∧ x.toInt ≤ jA.toInt := by omega
  have hy : 1 ≤ y.toInt ∧ y.toInt ≤ jA.toInt := by omega
  have hcc := hnc x.toInt.toNat (by omega)
  have hgx := hag x.toInt.toNat (by omega) (by omega)
  clear ho1 ho2 e1 e2
  rw [hgx.1]
  refine ok_in (by omega) (ok_eq (fun e5 => ok_some (Or.inl ⟨fun v => by omega, rfl, rfl, rfl, rfl, rfl⟩)) (fun e5 => ?_))
  have hv : 1 ≤ x.toInt ∧ x.toInt ≤ jA.toInt ∧ 1 ≤ y.toInt ∧ y.toInt ≤ jA.toInt ∧ 0 ≤ c.toInt ∧ c.toInt ≤ 2 ∧ (nc x.toInt.toNat).toInt < 20 := by omega
  refine ok_zc (lr_reaches hnt hag (by omega) (by omega) (by omega) hN) (fun o3 ho3 => ok_eq (fun e6 => ?_) (fun e6 => ?_))
  · have hno : ¬ RS (ED jA.toInt.toNat nc nd) y.toInt.toNat x.toInt.toNat := by
      rcases ho3 with ho3 | ho3
      · exact ho3.2
      · omega
    have hi := nb_i (a := x) (x := nc x.toInt.toNat) (by omega) (by omega) (by omega) (by omega)
    have eidx : (20 * (x - 1) + nc x.toInt.toNat).toInt.toNat = 20 * (x.toInt.toNat - 1) + (nc x.toInt.toNat).toInt.toNat := by rw [hi]; omega
    have hb : 0 ≤ (20 * (x - 1) + nc x.toInt.toNat).toInt ∧ (20 * (x - 1) + nc x.toInt.toNat).toInt < (540 : Nat) := by rw [hi]; omega
    refine ok_in (by omega) (ok_in hb (ok_zl (ok_in (by omega) (ok_in hb (ok_zl (ok_in (by omega) (ok_in (by omega) (ok_zl (ok_some (Or.inr ⟨hv, Or.inr ⟨hno, rfl, rfl, rfl, ?_, ?_⟩⟩))))))))))
    · rfl
    · show upd needs (20 * (x - 1) + nc x.toInt.toNat).toInt.toNat y = _
      rw [eidx]
  · rcases ho3 with ho3 | ⟨ho3, hyes, i, D, hRH⟩
    · omega
    · obtain ⟨q0, q1, q2, q3, q4, q5⟩ := id hRH
      have hcm : ch o3.2.1 x D := by
        have ha := an_came q2 q3 q5
        refine ⟨q2.1, fun m hm => ?_, ?_⟩
        · rw [ha m (by omega)]; exact q2.2.1 m hm
        · rw [ha (D + 1) (by omega)]; exact q2.2.2
      exact ok_zc (lr_keep hcm q4 hN) (fun o7 ho7 => ok_some (Or.inr ⟨hv, Or.inl ⟨hyes, rfl, rfl, rfl, i, D, _, _, hRH, ho7.1, ho7.2⟩⟩))
theorem nd_both {N : Nat} {lenA rs cd0 jA jB x y c : Int32} {row q bf nc al ring came lev pth many needs cnd : Nat → Int32} {nd g2 : Nat → Nat → Int32} (h : NR jA nc nd al jB many needs) (hr : RE lenA row rs ring) (hN : 4000 ≤ N) :
    ∃ oA, md_A_needs N lenA row q bf jA nc nd g2 al x y c = some oA ∧ ∃ oB, md_B_needs N cd0 jB rs many needs cnd ring came lev pth x y c = some oB ∧ oA.1 = oB.1 ∧ RE oA.2.1 oA.2.2.1 oB.2.2.1 oB.2.2.2.2.2.2.1 ∧ NR jA oA.2.2.2.2.2.1 oA.2.2.2.2.2.2.1 oA.2.2.2.2.2.2.2.2 jB oB.2.2.2.1 oB.2.2.2.2.1 := by
  obtain ⟨oA, eA, hA⟩ := nd_A (lenA := lenA) (row := row) (q := q) (bf := bf) (g2 := g2) (x := x) (y := y) (c := c) h hN
  obtain ⟨oB, eB, hB⟩ := nd_B (cd0 := cd0) (rs := rs) (ring := ring) (came := came) (lev := lev) (pth := pth) (cnd := cnd) (x := x) (y := y) (c := c) h hN
  refine ⟨oA, eA, oB, eB, ?_⟩
  rcases hA with ⟨v1, a1, a2, a3, a4, a5, a6⟩ | ⟨v1, hA⟩
  · rcases hB with ⟨v2, b1, b2, b3, b4, b5⟩ | ⟨v2, -⟩
    · rw [a2, a3, a4, a5, a6, b2, b3, b4, b5]
      exact ⟨Int32.toInt_inj.mp (a1.trans b1.symm), hr, h⟩
    · exact absurd v2 v1
  · rcases hB with ⟨v2, -⟩ | ⟨-, hB⟩
    · exact absurd v1 v2
    · rcases hA with ⟨r1, a1, a2, a3, a4, i, D, a5, a6, a7, a8⟩ | ⟨r1, a1, a2, a3, a4, a5, a6⟩
      · rcases hB with ⟨-, b1, b2, b3, k, E, cm, lv, b4, b5, b6⟩ | ⟨r2, -⟩
        · rw [a2, a3, a4, b2, b3]
          exact ⟨Int32.toInt_inj.mp (a1.trans b1.symm), re_of a5 a6 a7 a8 b4 b5 b6, h⟩
        · exact absurd r1 r2
      · rcases hB with ⟨r2, -⟩ | ⟨-, b1, b2, b3, b4, b5⟩
        · exact absurd r2 r1
        · rw [a2, a3, a4, a5, b2, b3, b4, b5]
          have hcc := h.2.2.2.1 x.toInt.toNat (by have := h.2.2.1; omega)
          exact ⟨Int32.toInt_inj.mp (a1.trans b1.symm), hr, nr_more h (by omega) ⟨hcc.1, v1.2.2.2.2.2.2⟩ ⟨v1.2.2.1, v1.2.2.2.1⟩ a6⟩
