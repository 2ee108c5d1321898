-- 72.find: the way back along the search; the class's search
def an (f : Nat → Int32) (z : Int32) : Nat → Int32
  | 0 => z
  | m + 1 => f (an f z m).toInt.toNat
def ch (f : Nat → Int32) (z : Int32) (D : Nat) : Prop := D ≤ 25 ∧ (∀ m, m ≤ D → 1 ≤ (an f z m).toInt ∧ (an f z m).toInt ≤ 26) ∧ (an f z (D + 1)).toInt = 0
theorem an_eq {f g : Nat → Int32} {z : Int32} {D : Nat} (hc : ch f z D) (h : ∀ x, x < 27 → g x = f x) : ∀ m, m ≤ D + 1 → an g z m = an f z m := by
  intro m
  induction m with
  | zero => intro _; rfl
  | succ m ih =>
    intro hm
    unfold an
    rw [ih (by omega)]
    have := hc.2.1 m (by omega)
    exact h _ (by omega)
theorem ch_eq {f g : Nat → Int32} {z : Int32} {D : Nat} (hc : ch f z D) (h : ∀ x, x < 27 → g x = f x) : ch g z D := by
  refine ⟨hc.1, fun m hm => ?_, ?_⟩
  · rw [an_eq hc h m (by omega)]; exact hc.2.1 m hm
  · rw [an_eq hc h (D + 1) (by omega)]; exact hc.2.2
theorem ch_one {f g : Nat → Int32} {z : Int32} {D E : Nat} (h1 : ch f z D) (h2 : ch g z E) (h : ∀ m, m ≤ D + 1 → an g z m = an f z m) : D = E := by
  rcases Nat.lt_trichotomy D E with q | q | q
  · have a1 := h2.2.1 (D + 1) (by omega)
    rw [h (D + 1) (by omega)] at a1
    have a2 := h1.2.2
    omega
  · exact q
  · have a1 := h1.2.1 (E + 1) (by omega)
    rw [← h (E + 1) (by omega)] at a1
    have a2 := h2.2.2
    omega
-- how deep
def DP (S : BS) (d : Nat → Nat) : Prop := ∀ x, (S.2.2 x).toInt ≠ -1 → d x < S.1 ∧ (((S.2.2 x).toInt = 0 ∧ d x = 0) ∨ ((S.2.2 x).toInt ≠ 0 ∧ d x = d (S.2.2 x).toInt.toNat + 1))
theorem ba_D {J a : Nat} {j x : Int32} {S : BS} {d : Nat → Nat} (hI : BI J a S) (h : DP S d) (hj : 1 ≤ j.toInt ∧ (S.2.2 j.toInt.toNat).toInt ≠ -1) (e : Nat → Nat) (he : (S.2.2 x.toInt.toNat).toInt = -1 → e x.toInt.toNat = d j.toInt.toNat + 1) (he2 : ∀ y, (S.2.2 y).toInt ≠ -1 → e y = d y) : DP (ba j x S) e := by
  unfold ba
  split
  · rename_i hn
    have hjx : j.toInt.toNat ≠ x.toInt.toNat := fun q => hj.2 (by rw [q]; exact hn)
    intro y hy
    have hy9 : (upd S.2.2 x.toInt.toNat j y).toInt ≠ -1 := hy
    show e y < S.1 + 1 ∧ (((upd S.2.2 x.toInt.toNat j y).toInt = 0 ∧ e y = 0) ∨ ((upd S.2.2 x.toInt.toNat j y).toInt ≠ 0 ∧ e y = e (upd S.2.2 x.toInt.toNat j y).toInt.toNat + 1))
    by_cases q : y = x.toInt.toNat
    · subst q
      rw [pk_us, he hn, he2 _ hj.2]
      have := (h _ hj.2).1
      exact ⟨by omega, Or.inr ⟨by omega, rfl⟩⟩
    · rw [pk_un q] at hy9 ⊢
      have h9 := h y hy9
      rw [he2 y hy9]
      refine ⟨by omega, ?_⟩
      rcases h9.2 with h8 | h8
      · exact Or.inl h8
      · refine Or.inr ⟨h8.1, ?_⟩
        have h7 := (hI.2.2.2.2 y hy9).2
        rcases h7 with h7 | h7
        · exact absurd h7.2 h8.1
        · rw [he2 _ h7.2.2]; exact h8.2
  · rename_i hn
    intro y hy
    have h9 := h y hy
    rw [he2 y hy]
    refine ⟨h9.1, ?_⟩
    rcases h9.2 with h8 | h8
    · exact Or.inl h8
    · refine Or.inr ⟨h8.1, ?_⟩
      have h7 := (hI.2.2.2.2 y hy).2
      rcases h7 with h7 | h7
      · exact absurd h7.2 h8.1
      · rw [he2 _ h7.2.2]; exact h8.2
theorem ba_Dx {J a : Nat} {j x : Int32} {S : BS} (hI : BI J a S) (h : ∃ d, DP S d) (hj : 1 ≤ j.toInt ∧ (S.2.2 j.toInt.toNat).toInt ≠ -1) : ∃ d, DP (ba j x S) d := by
  obtain ⟨d, h⟩ := h
  refine ⟨fun y => if (S.2.2 y).toInt = -1 then d j.toInt.toNat + 1 else d y, ba_D hI h hj _ (fun q => if_pos q) (fun y q => if_neg q)⟩
theorem bi_D {J : Nat} {nc : Nat → Int32} {nd : Nat → Nat → Int32} {a : Int32} (hn : nt J nc nd) (ha : 1 ≤ a.toInt ∧ a.toInt ≤ J) : ∀ i, (∀ m, m < i → m < (bi nc nd (b0 a) m).1) → ∃ d, DP (bi nc nd (b0 a) i) d := by
  intro i
  induction i with
  | zero =>
    intro _
    refine ⟨fun _ => 0, fun x hx => ⟨by show 0 < 1; omega, Or.inl ⟨?_, rfl⟩⟩⟩
    have h9 := (b0_I ha).2.2.2.2 x hx
    rcases h9.2 with h8 | h8
    · exact h8.2
    · have hx9 : (upd (fun _ => (-1 : Int32)) a.toInt.toNat 0 x).toInt ≠ -1 := hx
      show (upd (fun _ => (-1 : Int32)) a.toInt.toNat 0 x).toInt = 0
      by_cases e : x = a.toInt.toNat
      · subst e; rw [pk_us]; rfl
      · rw [pk_un e] at hx9; exact absurd rfl hx9
  | succ i ih =>
    intro hs
    have g := ih (fun m hm => hs m (by omega))
    have g1 := (bi_I hn ha i (fun m hm => hs m (by omega))).1
    have hq := g1.2.2.2.1 i (hs i (by omega))
    have hc := hn.2 ((bi nc nd (b0 a) i).2.1 i).toInt.toNat (by omega) (by omega)
    have key : ∀ k : Nat, (k : Int) ≤ (nc ((bi nc nd (b0 a) i).2.1 i).toInt.toNat).toInt → ∃ d, DP (bk nd ((bi nc nd (b0 a) i).2.1 i) k (bi nc nd (b0 a) i)) d := by
      intro k
      induction k with
      | zero => intro _; exact g
      | succ k ihk =>
        intro hk
        have g2 := (bk_I (j := (bi nc nd (b0 a) i).2.1 i) hn g1 ⟨hq.1, hq.2.1, hq.2.2⟩ k (by omega)).1
        have hE := bk_E (nd := nd) (j := (bi nc nd (b0 a) i).2.1 i) (S := bi nc nd (b0 a) i) k
        exact ba_Dx g2 (ihk (by omega)) ⟨hq.1, by rw [hE.2.2 _ hq.2.2]; exact hq.2.2⟩
    exact key _ (by omega)
theorem ch_of {J a : Nat} {S : BS} {d : Nat → Nat} {z : Int32} (hJ : J ≤ 26) (hI : BI J a S) (hd : DP S d) (hz : 1 ≤ z.toInt ∧ z.toInt ≤ J) (hf : (S.2.2 z.toInt.toNat).toInt ≠ -1) : ch S.2.2 z (d z.toInt.toNat) ∧ ∀ m, m ≤ d z.toInt.toNat → (S.2.2 (an S.2.2 z m).toInt.toNat).toInt ≠ -1 := by
  have key : ∀ m, m ≤ d z.toInt.toNat → 1 ≤ (an S.2.2 z m).toInt ∧ (an S.2.2 z m).toInt ≤ J ∧ (S.2.2 (an S.2.2 z m).toInt.toNat).toInt ≠ -1 ∧ d (an S.2.2 z m).toInt.toNat + m = d z.toInt.toNat := by
    intro m
    induction m with
    | zero => intro _; exact ⟨hz.1, hz.2, hf, rfl⟩
    | succ m ih =>
      intro hm
      obtain ⟨g1, g2, g3, g4⟩ := ih (by omega)
      have h9 := (hd _ g3).2
      have h7 := (hI.2.2.2.2 _ g3).2
      show 1 ≤ (S.2.2 (an S.2.2 z m).toInt.toNat).toInt ∧ (S.2.2 (an S.2.2 z m).toInt.toNat).toInt ≤ J ∧ (S.2.2 (S.2.2 (an S.2.2 z m).toInt.toNat).toInt.toNat).toInt ≠ -1 ∧ d (S.2.2 (an S.2.2 z m).toInt.toNat).toInt.toNat + (m + 1) = d z.toInt.toNat
      rcases h9 with h8 | h8
      · omega
      · rcases h7 with h7 | h7
        · exact absurd h7.2 h8.1
        · exact ⟨h7.1, h7.2.1, h7.2.2, by omega⟩
  have hlt := (hd _ hf).1
  have hcd := cd_le S.2.2 J
  have h2 := hI.2.1
  refine ⟨⟨by omega, fun m hm => ?_, ?_⟩, fun m hm => (key m hm).2.2.1⟩
  · have := key m hm; omega
  · obtain ⟨g1, g2, g3, g4⟩ := key _ (Nat.le_refl _)
    have h9 := (hd _ g3).2
    show (S.2.2 (an S.2.2 z (d z.toInt.toNat)).toInt.toNat).toInt = 0
    rcases h9 with h8 | h8
    · exact h8.1
    · omega
theorem an_ext {S T : BS} {z : Int32} {D : Nat} (hE : BE S T) (hf : ∀ m, m ≤ D → (S.2.2 (an S.2.2 z m).toInt.toNat).toInt ≠ -1) : ∀ m, m ≤ D + 1 → an T.2.2 z m = an S.2.2 z m := by
  intro m
  induction m with
  | zero => intro _; rfl
  | succ m ih =>
    intro hm
    unfold an
    rw [ih (by omega)]
    exact hE.2.2 _ (hf m (by omega))
theorem tr_in {N : Nat} {y z : Int32} {row bf : Nat → Int32} {D : Nat} (hc : ch bf z D) (hy : y.toInt = (D : Int) + 1) (hN : 4000 ≤ N) : ok (fx3 (md_Way_trace_F47 bf y) N (y - (1 : Int32)) z row) (fun o => o.1.toInt = (D : Int) + 1 ∧ ∀ m, m ≤ D → o.2 (D - m) = an bf z m) := by
  have hz : (0 : Int32).toInt = 0 := rfl
  have hD := hc.1
  have hy1 : (y - (1 : Int32)).toInt = (D : Int) := by first | omega | (simp only [i_add, i_sub, i_mul, l_add, l_sub, Int32.reduceToInt, Int64.reduceToInt, cl_n, true_or, or_true, true_and, and_true, and_self] at *; omega) | (simp only [i_add, i_sub, i_mul, l_add, l_sub, Int32.reduceToInt, Int64.reduceToInt, cl_n, true_or, or_true, true_and, and_true, and_self] at *; done)
  refine ok_fx3 (fun (i x : Int32) (f : Nat → Int32) => ∃ m : Nat, m ≤ D + 1 ∧ i.toInt = (D : Int) - (m : Int) ∧ x = an bf z m ∧ ∀ u : Nat, u < m → f (D - u) = an bf z u) (fun (i _ : Int32) (_ : Nat → Int32) => (i.toInt + 1).toNat) ?_ _ _ _ _ ⟨0, by omega, by omega, rfl, fun u hu => absurd hu (Nat.not_lt_zero _)⟩ (by omega)
  intro rec i x f hI ih
  obtain ⟨m, hm, hi, hx, hf⟩ := hI
  clear hN hy1
  unfold md_Way_trace_F47
  refine ok_lt (fun h0 => ok_some ⟨hy, fun u hu => hf u (by omega)⟩) (fun hi0 => ?_)
  have hmD : m ≤ D := by omega
  have hx9 : 1 ≤ x.toInt ∧ x.toInt ≤ 26 := by rw [hx]; exact hc.2.1 m hmD
  have hi1 : (i + (-1)).toInt = i.toInt - 1 := by first | omega | (simp only [i_add, i_sub, i_mul, l_add, l_sub, Int32.reduceToInt, Int64.reduceToInt, cl_n, true_or, or_true, true_and, and_true, and_self] at *; omega) | (simp only [i_add, i_sub, i_mul, l_add, l_sub, Int32.reduceToInt, Int64.reduceToInt, cl_n, true_or, or_true, true_and, and_true, and_self] at *; done)
  have hib : 0 ≤ i.toInt ∧ i.toInt < (26 : Nat) := by omega
  have hxb : 0 ≤ x.toInt ∧ x.toInt < (27 : Nat) := by omega
  have hmu : (i.toInt - 1 + 1).toNat < (i.toInt + 1).toNat := by omega
  have hi2 : i.toInt - 1 = (D : Int) - ((m + 1 : Nat) : Int) := by omega
  have hin : i.toInt.toNat = D - m := by omega
  refine ok_in hib (ok_zl (ok_in hxb (ih _ _ _ ⟨m + 1, Nat.succ_le_succ hmD, hi1.trans hi2, ?_, fun u hu => ?_⟩ (by rw [hi1]; exact hmu))))
  · rw [cl_n, hx]; rfl
  · rw [cl_n, hin]
    by_cases e2 : u = m
    · rw [e2, pk_us, hx]
    · have hne : D - u ≠ D - m := by
        clear ih hf hx hc
        omega
      have hlt : u < m := by
        clear ih hf hx hc
        omega
      rw [pk_un hne]; exact hf u hlt
theorem tr_trace {N : Nat} {len z : Int32} {row bf : Nat → Int32} {D : Nat} (hc : ch bf z D) (hN : 4000 ≤ N) : ok (md_Way_trace N len row bf z) (fun o => o.1.toInt = (D : Int) + 1 ∧ ∀ m, m ≤ D → o.2 (D - m) = an bf z m) := by
  have hz : (0 : Int32).toInt = 0 := rfl
  have h26 : (26 : Int32).toInt = 26 := rfl
  have hD := hc.1
  unfold md_Way_trace
  refine ok_fx2 (fun (x y : Int32) => ∃ m : Nat, m ≤ D + 1 ∧ y.toInt = (m : Int) ∧ x = an bf z m) (fun (_ y : Int32) => ((D : Int) + 1 - y.toInt).toNat) ?_ _ _ _ ⟨0, by omega, by omega, rfl⟩ (by omega)
  intro rec x y hI ih
  obtain ⟨m, hm, hy, hx⟩ := hI
  unfold md_Way_trace_F7
  have hk : m = D + 1 → ok (fx3 (md_Way_trace_F47 bf y) N (y - (1 : Int32)) z row) (fun o => o.1.toInt = (D : Int) + 1 ∧ ∀ m, m ≤ D → o.2 (D - m) = an bf z m) := fun e => tr_in hc (by rw [hy, e]; rfl) hN
  have hlo : m ≤ D → 1 ≤ x.toInt ∧ x.toInt ≤ 26 := fun h => by rw [hx]; exact hc.2.1 m h
  have hhi : m = D + 1 → x.toInt = 0 := fun h => by rw [hx, h]; exact hc.2.2
  clear hN
  have hor : m ≤ D ∨ m = D + 1 := by omega
  rcases hor with hmD | e
  · have hx9 := hlo hmD
    have hy1 : (y + (1 : Int32)).toInt = y.toInt + 1 := by first | omega | (simp only [i_add, i_sub, i_mul, l_add, l_sub, Int32.reduceToInt, Int64.reduceToInt, cl_n, true_or, or_true, true_and, and_true, and_self] at *; omega) | (simp only [i_add, i_sub, i_mul, l_add, l_sub, Int32.reduceToInt, Int64.reduceToInt, cl_n, true_or, or_true, true_and, and_true, and_self] at *; done)
    have hb : 0 ≤ x.toInt ∧ x.toInt < (27 : Nat) := by omega
    refine ok_zl (ok_le (fun h0 => by omega) (fun h0 => ok_le (fun h9 => by omega) (fun h9 => ok_in hb (ih _ _ ⟨m + 1, by omega, by omega, ?_⟩ (by omega)))))
    rw [cl_n, hx]; rfl
  · have hx9 := hhi e
    exact ok_zl (ok_le (fun _ => hk e) (fun h0 => by omega))
-- the class's queue and what is before each
def CR (S : BS) (qn : Int32) (q bf : Nat → Int32) : Prop := qn.toInt = (S.1 : Int) ∧ (∀ m, m < S.1 → q m = S.2.1 m) ∧ ∀ x, x < 27 → bf x = S.2.2 x
theorem cr_queue {N J a : Nat} {nc : Nat → Int32} {nd : Nat → Nat → Int32} {S : BS} {j qn : Int32} {q bf : Nat → Int32} (hn : nt J nc nd) (hI : BI J a S) (hj : 1 ≤ j.toInt ∧ j.toInt ≤ J ∧ (S.2.2 j.toInt.toNat).toInt ≠ -1) (hR : CR S qn q bf) (hN : 4000 ≤ N) :
    ok (md_Rin_queueNeeded N q bf nc nd j qn) (fun o => CR (bk nd j (nc j.toInt.toNat).toInt.toNat S) o.1 o.2.1 o.2.2) := by
  have hz : (0 : Int32).toInt = 0 := rfl
  have hm1 : (-1 : Int32).toInt = -1 := rfl
  have h26 : (26 : Int32).toInt = 26 := rfl
  have hJ := hn.1
  have hc := hn.2 j.toInt.toNat (by omega) (by omega)
  unfold md_Rin_queueNeeded
  refine ok_fx4 (fun (k y : Int32) (q bf : Nat → Int32) => ∃ u : Nat, k.toInt = (u : Int) ∧ (u : Int) ≤ (nc j.toInt.toNat).toInt ∧ CR (bk nd j u S) y q bf) (fun k _ _ _ => (20 - k.toInt).toNat) ?_ _ _ _ _ _ ⟨0, by omega, by omega, hR⟩ (by omega)
  intro rec k y q bf hL ih
  obtain ⟨u, hk, hu, hR⟩ := hL
  unfold md_Rin_queueNeeded_F6
  simp only [cl_n]
  refine ok_in (by omega) (ok_le (fun h9 => ok_some ?_) (fun h9 => ok_in (by omega) (ok_in (by omega) (ok_zl ?_))))
  · have e : (nc j.toInt.toNat).toInt.toNat = u := by omega
    rw [e]; exact hR
  have hnd := hc.2.2 u (by omega)
  have hk1 : (k + 1).toInt = k.toInt + 1 := by first | omega | (simp only [i_add, i_sub, i_mul, l_add, l_sub, Int32.reduceToInt, Int64.reduceToInt, cl_n, true_or, or_true, true_and, and_true, and_self] at *; omega) | (simp only [i_add, i_sub, i_mul, l_add, l_sub, Int32.reduceToInt, Int64.reduceToInt, cl_n, true_or, or_true, true_and, and_true, and_self] at *; done)
  have e : k.toInt.toNat = u := by omega
  rw [e]
  have hb := hR.2.2 (nd j.toInt.toNat u).toInt.toNat (by omega)
  obtain ⟨g1, -⟩ := bk_I hn hI hj u (by omega)
  refine ok_in (by omega) (ok_eq (fun h0 => ?_) (fun h0 => ih _ _ _ _ ⟨u + 1, by omega, by omega, ?_⟩ (by omega)))
  · rw [hb] at h0
    have hS : bk nd j (u + 1) S = ((bk nd j u S).1 + 1, upd (bk nd j u S).2.1 (bk nd j u S).1 (nd j.toInt.toNat u), upd (bk nd j u S).2.2 (nd j.toInt.toNat u).toInt.toNat j) := by
      show ba j (nd j.toInt.toNat u) (bk nd j u S) = _
      unfold ba
      rw [if_pos (h0.trans hm1)]
    have hcd := cd_upd (f := (bk nd j u S).2.2) (i := (nd j.toInt.toNat u).toInt.toNat) (v := j) (by omega) (h0.trans hm1) (by omega) J (by omega)
    have hcl := cd_le (upd (bk nd j u S).2.2 (nd j.toInt.toNat u).toInt.toNat j) J
    have h2 := g1.2.1
    have hy := hR.1
    have hy1 : (y + 1).toInt = y.toInt + 1 := by first | omega | (simp only [i_add, i_sub, i_mul, l_add, l_sub, Int32.reduceToInt, Int64.reduceToInt, cl_n, true_or, or_true, true_and, and_true, and_self] at *; omega) | (simp only [i_add, i_sub, i_mul, l_add, l_sub, Int32.reduceToInt, Int64.reduceToInt, cl_n, true_or, or_true, true_and, and_true, and_self] at *; done)
    refine ok_le (fun h => by omega) (fun _ => ok_in (by omega) (ok_zl (ok_in (by omega) (ok_zl (ih _ _ _ _ ⟨u + 1, by omega, by omega, ?_⟩ (by omega))))))
    rw [hS]
    have ey : y.toInt.toNat = (bk nd j u S).1 := by omega
    refine ⟨by show (y + 1).toInt = (((bk nd j u S).1 + 1 : Nat) : Int); omega, fun m hm => ?_, fun x hx => ?_⟩
    · show upd q y.toInt.toNat (nd j.toInt.toNat u) m = upd (bk nd j u S).2.1 (bk nd j u S).1 (nd j.toInt.toNat u) m
      rw [ey]
      by_cases em : m = (bk nd j u S).1
      · subst em; rw [pk_us, pk_us]
      · rw [pk_un em, pk_un em]
        have hm9 : m < (bk nd j u S).1 + 1 := hm
        exact hR.2.1 m (by omega)
    · show upd bf (nd j.toInt.toNat u).toInt.toNat j x = upd (bk nd j u S).2.2 (nd j.toInt.toNat u).toInt.toNat j x
      by_cases ex : x = (nd j.toInt.toNat u).toInt.toNat
      · subst ex; rw [pk_us, pk_us]
      · rw [pk_un ex, pk_un ex]; exact hR.2.2 x hx
  · have hS : bk nd j (u + 1) S = bk nd j u S := by
      show ba j (nd j.toInt.toNat u) (bk nd j u S) = _
      unfold ba
      rw [if_neg (fun h9 => h0 (by rw [hb, h9]; rfl))]
    rw [hS]; exact hR
theorem cr_find {N J : Nat} {nc : Nat → Int32} {nd : Nat → Nat → Int32} {a z len : Int32} {q bf row : Nat → Int32} (hn : nt J nc nd) (ha : 1 ≤ a.toInt ∧ a.toInt ≤ J) (hz : 1 ≤ z.toInt ∧ z.toInt ≤ J) (hr : RS (ED J nc nd) a.toInt.toNat z.toInt.toNat) (hN : 4000 ≤ N) :
    ok (md_Rin_find N q bf nc nd len row a z) (fun o => ∃ (i D : Nat), (∀ m, m < i → m < (bi nc nd (b0 a) m).1) ∧ ((bi nc nd (b0 a) i).2.2 z.toInt.toNat).toInt ≠ -1 ∧ ch (bi nc nd (b0 a) i).2.2 z D ∧ (∀ m, m ≤ D → ((bi nc nd (b0 a) i).2.2 (an (bi nc nd (b0 a) i).2.2 z m).toInt.toNat).toInt ≠ -1) ∧ o.2.2.1.toInt = (D : Int) + 1 ∧ ∀ m, m ≤ D → o.2.2.2 (D - m) = an (bi nc nd (b0 a) i).2.2 z m) := by
  have hz0 : (0 : Int32).toInt = 0 := rfl
  have hz1 : (1 : Int32).toInt = 1 := rfl
  have hm1 : (-1 : Int32).toInt = -1 := rfl
  have h26 : (26 : Int32).toInt = 26 := rfl
  have hJ := hn.1
  unfold md_Rin_find
  refine ok_zc (sf_fillI (by omega) hN) (fun o1 ho1 => ok_in (by omega) (ok_zl (ok_in (by omega) (ok_zl ?_))))
  simp only [cl_n]
  refine ok_fx4 (fun (x y : Int32) (f g : Nat → Int32) => ∃ i : Nat, x.toInt = (i : Int) ∧ i ≤ 26 ∧ (∀ m, m < i → m < (bi nc nd (b0 a) m).1) ∧ CR (bi nc nd (b0 a) i) y f g) (fun x _ _ _ => (26 - x.toInt).toNat) ?_ _ _ _ _ _ ⟨0, by omega, by omega, fun m hm => absurd hm (Nat.not_lt_zero _), ?_⟩ (by omega)
  · intro rec x y f g hL ih
    obtain ⟨i, hx, hi26, hs, hR⟩ := hL
    obtain ⟨g1, g2, g3⟩ := bi_I hn ha i hs
    obtain ⟨d, hd⟩ := bi_D hn ha i hs
    have hcd := cd_le (bi nc nd (b0 a) i).2.2 J
    have h2 := g1.2.1
    have hy := hR.1
    have hfin : ((bi nc nd (b0 a) i).2.2 z.toInt.toNat).toInt ≠ -1 → ok (zc (md_Way_trace N len row g z) (fun o8 => (some (f, g, o8.1, o8.2)))) (fun o => ∃ (i D : Nat), (∀ m, m < i → m < (bi nc nd (b0 a) m).1) ∧ ((bi nc nd (b0 a) i).2.2 z.toInt.toNat).toInt ≠ -1 ∧ ch (bi nc nd (b0 a) i).2.2 z D ∧ (∀ m, m ≤ D → ((bi nc nd (b0 a) i).2.2 (an (bi nc nd (b0 a) i).2.2 z m).toInt.toNat).toInt ≠ -1) ∧ o.2.2.1.toInt = (D : Int) + 1 ∧ ∀ m, m ≤ D → o.2.2.2 (D - m) = an (bi nc nd (b0 a) i).2.2 z m) := by
      intro hf
      obtain ⟨hc, hcf⟩ := ch_of hJ g1 hd hz hf
      refine ok_zc (tr_trace (ch_eq hc hR.2.2) hN) (fun o ho => ok_some ⟨i, _, hs, hf, hc, hcf, ho.1, fun m hm => ?_⟩)
      rw [← an_eq hc hR.2.2 m (by omega)]
      exact ho.2 m hm
    have hful : (bi nc nd (b0 a) i).1 ≤ i → ((bi nc nd (b0 a) i).2.2 z.toInt.toNat).toInt ≠ -1 := fun h9 => bi_full g1 g2 h9 hr
    unfold md_Rin_find_F28
    simp only [cl_n]
    refine ok_le (fun _ => hfin (hful (by omega))) (fun _ => ok_le (fun _ => hfin (hful (by omega))) (fun _ => ok_in (by omega) (ok_eq (fun h0 => ok_in (by omega) ?_) (fun h0 => hfin ?_))))
    · have hx1 : (x + 1).toInt = x.toInt + 1 := by first | omega | (simp only [i_add, i_sub, i_mul, l_add, l_sub, Int32.reduceToInt, Int64.reduceToInt, cl_n, true_or, or_true, true_and, and_true, and_self] at *; omega) | (simp only [i_add, i_sub, i_mul, l_add, l_sub, Int32.reduceToInt, Int64.reduceToInt, cl_n, true_or, or_true, true_and, and_true, and_self] at *; done)
      have ex : x.toInt.toNat = i := by omega
      have hq9 := g1.2.2.2.1 i (by omega)
      have efi : f x.toInt.toNat = (bi nc nd (b0 a) i).2.1 i := by rw [ex]; exact hR.2.1 i (by omega)
      rw [efi]
      refine ok_zc (cr_queue (j := (bi nc nd (b0 a) i).2.1 i) hn g1 ⟨hq9.1, hq9.2.1, hq9.2.2⟩ hR hN) (fun o ho => ih _ _ _ _ ⟨i + 1, by omega, by omega, fun m hm => ?_, ho⟩ (by omega))
      by_cases e : m = i
      · subst e; omega
      · exact hs m (by omega)
    · rw [hR.2.2 _ (by omega)] at h0
      exact fun h9 => h0 (h9.trans hm1.symm)
  · refine ⟨rfl, fun m hm => ?_, fun x hx => ?_⟩
    · have hm9 : m < 1 := hm
      have : m = 0 := by omega
      subst this
      show upd q (0 : Int32).toInt.toNat a 0 = a
      exact pk_us
    · show upd o1 a.toInt.toNat 0 x = upd (fun _ => -1) a.toInt.toNat 0 x
      by_cases e : x = a.toInt.toNat
      · subst e; rw [pk_us, pk_us]
      · rw [pk_un e, pk_un e]; exact ho1 x hx
