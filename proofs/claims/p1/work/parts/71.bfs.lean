-- 71.bfs: the search, level by level, by itself: how many were found, in which order, from where
abbrev BS : Type := Nat × (Nat → Int32) × (Nat → Int32)
def ba (j x : Int32) (S : BS) : BS := if (S.2.2 x.toInt.toNat).toInt = -1 then (S.1 + 1, upd S.2.1 S.1 x, upd S.2.2 x.toInt.toNat j) else S
def bk (nd : Nat → Nat → Int32) (j : Int32) : Nat → BS → BS
  | 0, S => S
  | k + 1, S => ba j (nd j.toInt.toNat k) (bk nd j k S)
def bi (nc : Nat → Int32) (nd : Nat → Nat → Int32) (S0 : BS) : Nat → BS
  | 0 => S0
  | i + 1 => bk nd ((bi nc nd S0 i).2.1 i) (nc ((bi nc nd S0 i).2.1 i).toInt.toNat).toInt.toNat (bi nc nd S0 i)
def b0 (a : Int32) : BS := (1, fun _ => a, upd (fun _ => -1) a.toInt.toNat 0)
-- how many are found
def cd (p : Nat → Int32) : Nat → Nat
  | 0 => 0
  | n + 1 => cd p n + if (p (n + 1)).toInt = -1 then 0 else 1
theorem cd_le (p : Nat → Int32) : ∀ n, cd p n ≤ n := by
  intro n
  induction n with
  | zero => exact Nat.le_refl _
  | succ n ih => unfold cd; split <;> omega
theorem cd_upd_ge {f : Nat → Int32} {i : Nat} {v : Int32} : ∀ n, n < i → cd (upd f i v) n = cd f n := by
  intro n
  induction n with
  | zero => intro _; rfl
  | succ n ih =>
    intro h
    unfold cd
    rw [ih (by omega), pk_un (by omega)]
theorem cd_upd {f : Nat → Int32} {i : Nat} {v : Int32} (h1 : 1 ≤ i) (hf : (f i).toInt = -1) (hv : v.toInt ≠ -1) : ∀ n, i ≤ n → cd (upd f i v) n = cd f n + 1 := by
  intro n
  induction n with
  | zero => intro h; omega
  | succ n ih =>
    intro h
    unfold cd
    by_cases e : i = n + 1
    · subst e
      rw [cd_upd_ge n (by omega), pk_us, if_pos hf, if_neg hv]
    · rw [pk_un (fun q => e q.symm), ih (by omega)]
      omega
theorem cd_none : ∀ n, cd (fun _ => -1) n = 0 := by
  intro n
  induction n with
  | zero => rfl
  | succ n ih => unfold cd; rw [ih]; rfl
-- a net of J jobs
def nt (J : Nat) (nc : Nat → Int32) (nd : Nat → Nat → Int32) : Prop := J ≤ 26 ∧ ∀ j, 1 ≤ j → j ≤ J → 0 ≤ (nc j).toInt ∧ (nc j).toInt ≤ 20 ∧ ∀ k : Nat, (k : Int) < (nc j).toInt → 1 ≤ (nd j k).toInt ∧ (nd j k).toInt ≤ J
def ED (J : Nat) (nc : Nat → Int32) (nd : Nat → Nat → Int32) (a b : Nat) : Prop := 1 ≤ a ∧ a ≤ J ∧ ∃ k : Nat, (k : Int) < (nc a).toInt ∧ (nd a k).toInt = b
-- what holds of the search
def BI (J a : Nat) (S : BS) : Prop := 1 ≤ S.1 ∧ S.1 = cd S.2.2 J ∧ (S.2.1 0).toInt = a ∧ (∀ m, m < S.1 → 1 ≤ (S.2.1 m).toInt ∧ (S.2.1 m).toInt ≤ J ∧ (S.2.2 (S.2.1 m).toInt.toNat).toInt ≠ -1) ∧ (∀ x, (S.2.2 x).toInt ≠ -1 → (∃ m, m < S.1 ∧ (S.2.1 m).toInt = x) ∧ ((x = a ∧ (S.2.2 x).toInt = 0) ∨ (1 ≤ (S.2.2 x).toInt ∧ (S.2.2 x).toInt ≤ J ∧ (S.2.2 (S.2.2 x).toInt.toNat).toInt ≠ -1)))
-- what is found stays
def BE (S T : BS) : Prop := S.1 ≤ T.1 ∧ (∀ m, m < S.1 → T.2.1 m = S.2.1 m) ∧ ∀ x, (S.2.2 x).toInt ≠ -1 → T.2.2 x = S.2.2 x
theorem BE.rfl {S : BS} : BE S S := ⟨Nat.le_refl _, fun _ _ => Eq.refl _, fun _ _ => Eq.refl _⟩
theorem BE.trans {S T U : BS} (h : BE S T) (g : BE T U) : BE S U := ⟨Nat.le_trans h.1 g.1, fun m hm => (g.2.1 m (by have := h.1; omega)).trans (h.2.1 m hm), fun x hx => (g.2.2 x (by rw [h.2.2 x hx]; exact hx)).trans (h.2.2 x hx)⟩
theorem ba_E {j x : Int32} {S : BS} : BE S (ba j x S) := by
  unfold ba
  split
  · rename_i h
    refine ⟨Nat.le_succ _, fun m hm => pk_un (by omega), fun y hy => pk_un (fun e => hy (by rw [e]; exact h))⟩
  · exact BE.rfl
theorem bk_E {nd : Nat → Nat → Int32} {j : Int32} {S : BS} : ∀ k, BE S (bk nd j k S) := by
  intro k
  induction k with
  | zero => exact BE.rfl
  | succ k ih => exact ih.trans ba_E
theorem bi_E {nc : Nat → Int32} {nd : Nat → Nat → Int32} {S0 : BS} {i k : Nat} (h : i ≤ k) : BE (bi nc nd S0 i) (bi nc nd S0 k) := by
  induction k with
  | zero => have : i = 0 := by omega
            subst this; exact BE.rfl
  | succ k ih =>
    by_cases e : i = k + 1
    · subst e; exact BE.rfl
    · exact (ih (by omega)).trans (bk_E _)
theorem ba_I {J a : Nat} {j x : Int32} {S : BS} (h : BI J a S) (hj : 1 ≤ j.toInt ∧ j.toInt ≤ J ∧ (S.2.2 j.toInt.toNat).toInt ≠ -1) (hx : 1 ≤ x.toInt ∧ x.toInt ≤ J) : BI J a (ba j x S) ∧ ((ba j x S).2.2 x.toInt.toNat).toInt ≠ -1 := by
  have hE := ba_E (j := j) (x := x) (S := S)
  unfold ba at hE ⊢
  split
  · rename_i hn
    rw [if_pos hn] at hE
    obtain ⟨h1, h2, h3, h4, h5⟩ := h
    have hjx : j.toInt.toNat ≠ x.toInt.toNat := fun e => hj.2.2 (by rw [e]; exact hn)
    refine ⟨⟨by show 1 ≤ S.1 + 1; omega, ?_, ?_, fun m hm => ?_, fun y hy => ?_⟩, ?_⟩
    · show S.1 + 1 = cd (upd S.2.2 x.toInt.toNat j) J
      rw [cd_upd (by omega) hn (by omega) J (by omega), ← h2]
    · show (upd S.2.1 S.1 x 0).toInt = a
      rw [pk_un (by omega)]; exact h3
    · show 1 ≤ (upd S.2.1 S.1 x m).toInt ∧ (upd S.2.1 S.1 x m).toInt ≤ J ∧ (upd S.2.2 x.toInt.toNat j (upd S.2.1 S.1 x m).toInt.toNat).toInt ≠ -1
      by_cases e : m = S.1
      · subst e
        rw [pk_us, pk_us]
        exact ⟨hx.1, hx.2, by omega⟩
      · have hm9 : m < S.1 + 1 := hm
        have h9 := h4 m (by omega)
        rw [pk_un e]
        refine ⟨h9.1, h9.2.1, ?_⟩
        by_cases e2 : (S.2.1 m).toInt.toNat = x.toInt.toNat
        · rw [e2, pk_us]; omega
        · rw [pk_un e2]; exact h9.2.2
    · have hy9 : (upd S.2.2 x.toInt.toNat j y).toInt ≠ -1 := hy
      show (∃ m, m < S.1 + 1 ∧ (upd S.2.1 S.1 x m).toInt = y) ∧ ((y = a ∧ (upd S.2.2 x.toInt.toNat j y).toInt = 0) ∨ (1 ≤ (upd S.2.2 x.toInt.toNat j y).toInt ∧ (upd S.2.2 x.toInt.toNat j y).toInt ≤ J ∧ (upd S.2.2 x.toInt.toNat j (upd S.2.2 x.toInt.toNat j y).toInt.toNat).toInt ≠ -1))
      by_cases e : y = x.toInt.toNat
      · subst e
        rw [pk_us]
        refine ⟨⟨S.1, by omega, by rw [pk_us]; omega⟩, Or.inr ⟨hj.1, hj.2.1, ?_⟩⟩
        rw [pk_un hjx]; exact hj.2.2
      · rw [pk_un e] at hy9 ⊢
        obtain ⟨⟨m, q1, q2⟩, q3⟩ := h5 y hy9
        refine ⟨⟨m, by omega, by rw [pk_un (by omega)]; exact q2⟩, ?_⟩
        rcases q3 with q3 | ⟨q3, q4, q5⟩
        · exact Or.inl q3
        · refine Or.inr ⟨q3, q4, ?_⟩
          by_cases e2 : (S.2.2 y).toInt.toNat = x.toInt.toNat
          · rw [e2, pk_us]; omega
          · rw [pk_un e2]; exact q5
    · show (upd S.2.2 x.toInt.toNat j x.toInt.toNat).toInt ≠ -1
      rw [pk_us]; omega
  · rename_i hn
    exact ⟨h, hn⟩
theorem bk_I {J a : Nat} {nc : Nat → Int32} {nd : Nat → Nat → Int32} {j : Int32} {S : BS} (hn : nt J nc nd) (h : BI J a S) (hj : 1 ≤ j.toInt ∧ j.toInt ≤ J ∧ (S.2.2 j.toInt.toNat).toInt ≠ -1) : ∀ k : Nat, (k : Int) ≤ (nc j.toInt.toNat).toInt → BI J a (bk nd j k S) ∧ ∀ i, i < k → ((bk nd j k S).2.2 (nd j.toInt.toNat i).toInt.toNat).toInt ≠ -1 := by
  intro k
  induction k with
  | zero => intro _; exact ⟨h, fun i hi => absurd hi (Nat.not_lt_zero _)⟩
  | succ k ih =>
    intro hk
    obtain ⟨g1, g2⟩ := ih (by omega)
    have hE := bk_E (nd := nd) (j := j) (S := S) k
    have hnd := (hn.2 j.toInt.toNat (by omega) (by omega)).2.2 k (by omega)
    have hjj : 1 ≤ j.toInt ∧ j.toInt ≤ J ∧ ((bk nd j k S).2.2 j.toInt.toNat).toInt ≠ -1 := ⟨hj.1, hj.2.1, by rw [hE.2.2 _ hj.2.2]; exact hj.2.2⟩
    obtain ⟨g3, g4⟩ := ba_I g1 hjj hnd
    refine ⟨g3, fun i hi => ?_⟩
    by_cases e : i = k
    · subst e; exact g4
    · have h9 := g2 i (by omega)
      have hE2 := ba_E (j := j) (x := nd j.toInt.toNat k) (S := bk nd j k S)
      show ((ba j (nd j.toInt.toNat k) (bk nd j k S)).2.2 (nd j.toInt.toNat i).toInt.toNat).toInt ≠ -1
      rw [hE2.2.2 _ h9]; exact h9
theorem b0_I {J : Nat} {a : Int32} (ha : 1 ≤ a.toInt ∧ a.toInt ≤ J) : BI J a.toInt.toNat (b0 a) := by
  have hm : (-1 : Int32).toInt = -1 := rfl
  have hz : (0 : Int32).toInt = 0 := rfl
  refine ⟨Nat.le_refl _, ?_, by show a.toInt = _; omega, fun m hm9 => ?_, fun x hx => ?_⟩
  · show 1 = cd (upd (fun _ => -1) a.toInt.toNat 0) J
    rw [cd_upd (by omega) rfl (by decide) J (by omega), cd_none]
  · refine ⟨ha.1, ha.2, ?_⟩
    show (upd (fun _ => -1) a.toInt.toNat 0 a.toInt.toNat).toInt ≠ -1
    rw [pk_us]; decide
  · have hx9 : (upd (fun _ => (-1 : Int32)) a.toInt.toNat 0 x).toInt ≠ -1 := hx
    by_cases e : x = a.toInt.toNat
    · subst e
      refine ⟨⟨0, by show 0 < 1; omega, by show a.toInt = _; omega⟩, Or.inl ⟨rfl, ?_⟩⟩
      show (upd (fun _ => (-1 : Int32)) a.toInt.toNat 0 a.toInt.toNat).toInt = 0
      rw [pk_us]; rfl
    · rw [pk_un e] at hx9
      exact absurd hm hx9
-- i rounds of the search: all of the first i are looked through
def BP (nc : Nat → Int32) (nd : Nat → Nat → Int32) (S : BS) (i : Nat) : Prop := ∀ m, m < i → ∀ k : Nat, (k : Int) < (nc (S.2.1 m).toInt.toNat).toInt → (S.2.2 (nd (S.2.1 m).toInt.toNat k).toInt.toNat).toInt ≠ -1
theorem bi_I {J : Nat} {nc : Nat → Int32} {nd : Nat → Nat → Int32} {a : Int32} (hn : nt J nc nd) (ha : 1 ≤ a.toInt ∧ a.toInt ≤ J) : ∀ i, (∀ m, m < i → m < (bi nc nd (b0 a) m).1) → BI J a.toInt.toNat (bi nc nd (b0 a) i) ∧ BP nc nd (bi nc nd (b0 a) i) i ∧ i ≤ (bi nc nd (b0 a) i).1 := by
  intro i
  induction i with
  | zero => intro _; exact ⟨b0_I ha, fun m hm => absurd hm (Nat.not_lt_zero _), Nat.zero_le _⟩
  | succ i ih =>
    intro hs
    obtain ⟨g1, g2, g3⟩ := ih (fun m hm => hs m (by omega))
    have hi := hs i (by omega)
    have hq := g1.2.2.2.1 i hi
    have hc := hn.2 ((bi nc nd (b0 a) i).2.1 i).toInt.toNat (by omega) (by omega)
    obtain ⟨g4, g5⟩ := bk_I (j := (bi nc nd (b0 a) i).2.1 i) hn g1 ⟨hq.1, hq.2.1, hq.2.2⟩ (nc ((bi nc nd (b0 a) i).2.1 i).toInt.toNat).toInt.toNat (by omega)
    have hE : BE (bi nc nd (b0 a) i) (bi nc nd (b0 a) (i + 1)) := bk_E _
    refine ⟨g4, fun m hm k hk => ?_, by have := hE.1; omega⟩
    have hm9 : (bi nc nd (b0 a) (i + 1)).2.1 m = (bi nc nd (b0 a) i).2.1 m := hE.2.1 m (by omega)
    rw [hm9] at hk ⊢
    by_cases e : m = i
    · subst e
      exact g5 k (by omega)
    · have h9 := g2 m (by omega) k hk
      rw [hE.2.2 _ h9]; exact h9
-- what is found can be reached, and when nothing is left to be looked through all that can be reached is found
theorem ba_R {J : Nat} {nc : Nat → Int32} {nd : Nat → Nat → Int32} {a : Nat} {j x : Int32} {S : BS} (h : ∀ y, (S.2.2 y).toInt ≠ -1 → RS (ED J nc nd) a y) (hx : RS (ED J nc nd) a x.toInt.toNat) : ∀ y, ((ba j x S).2.2 y).toInt ≠ -1 → RS (ED J nc nd) a y := by
  unfold ba
  split
  · intro y hy
    have hy9 : (upd S.2.2 x.toInt.toNat j y).toInt ≠ -1 := hy
    by_cases e : y = x.toInt.toNat
    · subst e; exact hx
    · rw [pk_un e] at hy9; exact h y hy9
  · exact h
theorem bi_R {J : Nat} {nc : Nat → Int32} {nd : Nat → Nat → Int32} {a : Int32} (hn : nt J nc nd) (ha : 1 ≤ a.toInt ∧ a.toInt ≤ J) : ∀ i, (∀ m, m < i → m < (bi nc nd (b0 a) m).1) → ∀ y, ((bi nc nd (b0 a) i).2.2 y).toInt ≠ -1 → RS (ED J nc nd) a.toInt.toNat y := by
  intro i
  induction i with
  | zero =>
    intro _ y hy
    have hy9 : (upd (fun _ => (-1 : Int32)) a.toInt.toNat 0 y).toInt ≠ -1 := hy
    by_cases e : y = a.toInt.toNat
    · subst e; exact RS.rfl
    · rw [pk_un e] at hy9; exact absurd rfl hy9
  | succ i ih =>
    intro hs
    have g := ih (fun m hm => hs m (by omega))
    have g1 := (bi_I hn ha i (fun m hm => hs m (by omega))).1
    have hq := g1.2.2.2.1 i (hs i (by omega))
    have hc := hn.2 ((bi nc nd (b0 a) i).2.1 i).toInt.toNat (by omega) (by omega)
    have hr := g _ hq.2.2
    have key : ∀ k : Nat, (k : Int) ≤ (nc ((bi nc nd (b0 a) i).2.1 i).toInt.toNat).toInt → ∀ y, ((bk nd ((bi nc nd (b0 a) i).2.1 i) k (bi nc nd (b0 a) i)).2.2 y).toInt ≠ -1 → RS (ED J nc nd) a.toInt.toNat y := by
      intro k
      induction k with
      | zero => intro _; exact g
      | succ k ihk =>
        intro hk
        refine ba_R (ihk (by omega)) (hr.trans (RS.cons ⟨by omega, by omega, k, by omega, ?_⟩ RS.rfl))
        have := hc.2.2 k (by omega)
        omega
    exact key _ (by omega)
theorem bi_full {J : Nat} {nc : Nat → Int32} {nd : Nat → Nat → Int32} {a : Nat} {S : BS} {i : Nat} (h : BI J a S) (hp : BP nc nd S i) (hi : S.1 ≤ i) {y : Nat} (hr : RS (ED J nc nd) a y) : (S.2.2 y).toInt ≠ -1 := by
  have h0 : (S.2.2 a).toInt ≠ -1 := by
    have h9 := h.2.2.2.1 0 (by have := h.1; omega)
    have e := h.2.2.1
    rw [e] at h9
    exact h9.2.2
  obtain ⟨n, hr⟩ := hr
  have key : ∀ n b, (S.2.2 b).toInt ≠ -1 → rc (ED J nc nd) n b y → (S.2.2 y).toInt ≠ -1 := by
    intro n
    induction n with
    | zero => intro b hb e; cases e; exact hb
    | succ n ih =>
      rintro b hb ⟨d, ⟨q1, q2, k, q3, q4⟩, q5⟩
      refine ih d ?_ q5
      obtain ⟨⟨m, hm, e⟩, -⟩ := h.2.2.2.2 b hb
      have h9 := hp m (by omega) k (by rw [e]; exact q3)
      rw [e] at h9
      have e3 : (nd ((b : Int)).toNat k).toInt.toNat = d := by
        have : ((b : Int)).toNat = b := rfl
        rw [this, q4]; rfl
      rw [e3] at h9
      exact h9
  exact key n a h0 hr
