-- 79.whole: the class reads the whole text
def PO (T : Nat → Int) (n : Nat) (fin : Bool × Nat × Nat × (Nat → Int) × (Nat → Nat) × (Nat → Nat → Nat)) (r p jobs : Int32) (nc : Nat → Int32) (nd : Nat → Nat → Int32) (al : Nat → Int32) : Prop := gg nd 27 20 0 26 ∧
  ((r.toInt = 0 ∧ fin.1 = false ∧ p.toInt = (fin.2.1 : Int)) ∨
   (r.toInt = 0 ∧ fin.1 = true ∧ ∃ j k, 1 ≤ j ∧ j ≤ fin.2.2.1 ∧ k < fin.2.2.2.2.1 j ∧ tg fin.2.2.2.1 fin.2.2.1 (T (fin.2.2.2.2.2 j k)) = 0 ∧ p.toInt = (fin.2.2.2.2.2 j k : Int) ∧ FM T fin.2.2.1 fin.2.2.2.1 fin.2.2.2.2.1 fin.2.2.2.2.2 (bs fin.2.2.2.2.1 (j - 1) + k)) ∨
   (r.toInt = 1 ∧ fin.1 = true ∧ p.toInt = (n : Int) ∧ jobs.toInt = (fin.2.2.1 : Int) ∧ FM T fin.2.2.1 fin.2.2.2.1 fin.2.2.2.2.1 fin.2.2.2.2.2 (bs fin.2.2.2.2.1 fin.2.2.1) ∧ WF T n fin.2.2.1 fin.2.2.2.2.1 fin.2.2.2.2.2 ∧ rg nc 27 0 20 ∧ nt fin.2.2.1 nc nd ∧ CL fin.2.2.1 nc nd al ∧ NF T fin.2.2.1 fin.2.2.2.1 fin.2.2.2.2.1 fin.2.2.2.2.2 nc nd))
theorem tf_tail {N n J a : Nat} {len x4 x6 x11 x13 : Int32} {t f7 f8 f9 f10 nc al : Nat → Int32} {nd g g12 : Nat → Nat → Int32} {nm : Nat → Int} {cn : Nat → Nat} {pl : Nat → Nat → Nat} {fin : Bool × Nat × Nat × (Nat → Int) × (Nat → Nat) × (Nat → Nat → Nat)} (hl : len.toInt = (n : Int)) (hn : n ≤ 2000) (hx : x13.toInt = (a : Int)) (ha : a ≤ n) (hW : WF (tx t) n J cn pl) (hpd : x4.toInt = (bs cn J : Int)) (hjb : x11.toInt = (J : Int)) (hjol : ∀ l, l < 26 → (f7 l).toInt = (tg nm J (97 + (l : Int)) : Int)) (how : ∀ j k, 1 ≤ j → j ≤ J → k < cn j → (f8 (bs cn (j - 1) + k)).toInt = (j : Int) ∧ (f9 (bs cn (j - 1) + k)).toInt = (pl j k : Int)) (hnc : rg nc 27 0 0) (hal : rg al 27 0 0) (hnd : gg nd 27 20 0 26) (hN : 4000 ≤ N) (hfin : fin = (decide (n ≤ sk (tx t) n a), sk (tx t) n a, J, nm, cn, pl)) :
    ok (zc (md_Tex_skipBlanks N len x13 t) (fun o14 => (if o14 < len then (some ((0 : Int32), x4, o14, x6, f7, f8, f9, f10, x11, g12, nc, nd, g, al)) else (zc (md_Tex_addNeeds N x4 o14 t f7 f8 f9 f10 x11 nc nd g al) (fun o15 => (if o15.1 = 0 then (some ((0 : Int32), x4, o15.2.1, x6, f7, f8, f9, f10, x11, g12, o15.2.2.1, o15.2.2.2.1, o15.2.2.2.2.1, o15.2.2.2.2.2)) else (some ((1 : Int32), x4, o15.2.1, x6, f7, f8, f9, f10, x11, g12, o15.2.2.1, o15.2.2.2.1, o15.2.2.2.2.1, o15.2.2.2.2.2)))))))) (fun o => PO (tx t) n fin o.1 o.2.2.1 o.2.2.2.2.2.2.2.2.1 o.2.2.2.2.2.2.2.2.2.2.1 o.2.2.2.2.2.2.2.2.2.2.2.1 o.2.2.2.2.2.2.2.2.2.2.2.2.2) := by
  have hz : (0 : Int32).toInt = 0 := rfl
  have hsk := sk_le (T := tx t) ha
  refine ok_zc (tf_skip hl hn hx ha hN) (fun o14 ho14 => ok_lt (fun e => ok_some ?_) (fun e => ?_))
  · rw [decide_eq_false (show ¬ n ≤ sk (tx t) n a from by omega)] at hfin
    rw [hfin]
    exact ⟨hnd, Or.inl ⟨rfl, rfl, ho14⟩⟩
  · rw [decide_eq_true (show n ≤ sk (tx t) n a from by omega)] at hfin
    rw [hfin]
    refine ok_zc (tf_add hn hW hpd hjb hjol how hnc hal hnd hN) (fun o15 ho15 => ok_eq (fun e1 => ok_some ?_) (fun e1 => ok_some ?_))
    · rcases ho15 with ⟨q1, q2, q3⟩ | ⟨q1, -⟩
      · exact ⟨q2, Or.inr (Or.inl ⟨rfl, rfl, q3⟩)⟩
      · omega
    · rcases ho15 with ⟨q1, -⟩ | ⟨q1, q2, q3, q4, q5, q6, q7, q8⟩
      · omega
      · exact ⟨q5, Or.inr (Or.inr ⟨rfl, rfl, by rw [q2]; omega, hjb, q3, hW, q4, q6, q7, q8⟩)⟩
theorem wf_more {T : Nat → Int} {n J s : Nat} {cn : Nat → Nat} {pl : Nat → Nat → Nat} (h : WF T n J cn pl) (hJ : J < 26) (hs : s < n) : WF T n (J + 1) (fun j => if j = J + 1 then (sj T n s).2.2.1 else cn j) (fun j => if j = J + 1 then (sj T n s).2.2.2 else pl j) := by
  refine ⟨by omega, fun j h1 h2 => ?_⟩
  dsimp only
  by_cases e : j = J + 1
  · rw [if_pos e, if_pos e]
    have := sj_le (T := T) hs
    exact ⟨this.2.1, this.2.2⟩
  · rw [if_neg e, if_neg e]
    exact h.2 j h1 (by omega)
theorem bs_more {cn : Nat → Nat} {J c : Nat} {j : Nat} (h : j ≤ J) : bs (fun j => if j = J + 1 then c else cn j) j = bs cn j :=
  bs_eq j (fun i _ h2 => if_neg (by omega))
theorem tg_more {nm : Nat → Int} {J : Nat} {v c : Int} : tg (fun j => if j = J + 1 then v else nm j) (J + 1) c = if v = c then J + 1 else tg nm J c := by
  have h : tg (fun j => if j = J + 1 then v else nm j) J c = tg nm J c := tg_eq J (fun j _ h2 => if_neg (by omega))
  show (if (if J + 1 = J + 1 then v else nm (J + 1)) = c then J + 1 else tg (fun j => if j = J + 1 then v else nm j) J c) = _
  rw [if_pos rfl, h]
theorem tf_parse {N n : Nat} {pd len at0 nb0 jobs0 : Int32} {t jol ow np cnd nc al : Nat → Int32} {gn nd g : Nat → Nat → Int32} {fin : Bool × Nat × Nat × (Nat → Int) × (Nat → Nat) × (Nat → Nat → Nat)} (hl : len.toInt = (n : Int)) (hn : n ≤ 2000) (hnd : gg nd 27 20 0 26) (hN : 4000 ≤ N) (hfin : sp (tx t) n 26 0 0 (fun _ => 0) (fun _ => 0) (fun _ _ => 0) = fin) :
    ok (md_Tex_parse N pd len at0 nb0 t jol ow np cnd jobs0 gn nc nd g al) (fun o => PO (tx t) n fin o.1 o.2.2.1 o.2.2.2.2.2.2.2.2.1 o.2.2.2.2.2.2.2.2.2.2.1 o.2.2.2.2.2.2.2.2.2.2.2.1 o.2.2.2.2.2.2.2.2.2.2.2.2.2) := by
  have hz : (0 : Int32).toInt = 0 := rfl
  have h1 : (1 : Int32).toInt = 1 := rfl
  have h26 : (26 : Int32).toInt = 26 := rfl
  have hcl : ok (md_Net_clear N jobs0 nc al) (fun o => o.1.toInt = 0 ∧ rg o.2.1 27 0 0 ∧ rg o.2.2 27 0 0) := by
    unfold md_Net_clear
    refine ok_zc (sf_fillI (by omega) hN) (fun o1 ho1 => ok_zc (sf_fillI (by omega) hN) (fun o2 ho2 => ok_some ⟨rfl, fun j hj => ?_, fun j hj => ?_⟩))
    · show 0 ≤ (o1 j).toInt ∧ (o1 j).toInt ≤ 0
      rw [ho1 j hj]; omega
    · show 0 ≤ (o2 j).toInt ∧ (o2 j).toInt ≤ 0
      rw [ho2 j hj]; omega
  unfold md_Tex_parse
  refine ok_zc hcl (fun o1 ho1 => ok_zc (sf_fillI (by omega) hN) (fun o2 ho2 => ?_))
  obtain ⟨hj0, hnc, hal⟩ := ho1
  refine ok_fx10 (fun (x3 x4 x5 _ : Int32) (f7 f8 f9 _ : Nat → Int32) (x11 : Int32) (_ : Nat → Nat → Int32) => ∃ (J a : Nat) (nm : Nat → Int) (cn : Nat → Nat) (pl : Nat → Nat → Nat), x3.toInt = (J : Int) + 1 ∧ x4.toInt = (bs cn J : Int) ∧ x5.toInt = (a : Int) ∧ a ≤ n ∧ x11.toInt = (J : Int) ∧ sp (tx t) n (26 - J) J a nm cn pl = fin ∧ WF (tx t) n J cn pl ∧ (∀ l, l < 26 → (f7 l).toInt = (tg nm J (97 + (l : Int)) : Int)) ∧ ∀ j k, 1 ≤ j → j ≤ J → k < cn j → (f8 (bs cn (j - 1) + k)).toInt = (j : Int) ∧ (f9 (bs cn (j - 1) + k)).toInt = (pl j k : Int)) (fun (x3 _ _ _ : Int32) (_ _ _ _ : Nat → Int32) (_ : Int32) (_ : Nat → Nat → Int32) => (27 - x3.toInt).toNat) ?_ _ _ _ _ _ _ _ _ _ _ _ ⟨0, 0, fun _ => 0, fun _ => 0, fun _ _ => 0, h1, hz, hz, by omega, hj0, hfin, ⟨by omega, fun j a1 a2 => by omega⟩, fun l hl => ?_, fun j k a1 a2 => by omega⟩ (by omega)
  · intro rec x3 x4 x5 x6 f7 f8 f9 f10 x11 g12 hI ih
    obtain ⟨J, a, nm, cn, pl, hx3, hx4, hx5, ha, hx11, hs, hW, hjol, how⟩ := hI
    have hJ := hW.1
    have hsk := sk_le (T := tx t) ha
    have hbs := bs_le (cn := cn) J (fun j q1 q2 => (hW.2 j q1 q2).1)
    unfold md_Tex_parse_F24
    refine ok_zl (ok_lt (fun e => ?_) (fun e => ok_zc (tf_skip hl hn hx5 ha hN) (fun o16 ho16 => ok_lt (fun e2 => ?_) (fun e2 => ?_))))
    · have eJ : J = 26 := by omega
      subst eJ
      exact tf_tail hl hn hx5 ha hW hx4 hx11 hjol how hnc hal hnd hN hs.symm
    · rw [show 26 - J = (25 - J) + 1 from by omega] at hs
      unfold sp at hs
      rw [if_neg (show ¬ n ≤ sk (tx t) n a from by omega)] at hs
      have hsn : sk (tx t) n a < n := by omega
      generalize sk (tx t) n a = s at ho16 hs hsk hsn
      refine ok_zc (tf_job hl hn ho16 hsn hx4 (by omega) (by omega) hN) (fun o17 ho17 => ?_)
      have hjs : 97 ≤ tx t s ∧ tx t s ≤ 122 → (f7 (tx t s - 97).toNat).toInt = (tg nm J (tx t s) : Int) := by
        intro q
        have := hjol (tx t s - 97).toNat (by omega)
        rw [show (97 + (((tx t s - 97).toNat : Nat) : Int)) = tx t s from by omega] at this
        exact this
      rcases ho17 with ⟨q1, q2, q3⟩ | ⟨q1, q2, q3, q4, q5⟩
      · rw [if_neg (fun z => q1 ⟨z.1, z.2.1, by rw [hjs ⟨z.1, z.2.1⟩, z.2.2]; rfl⟩)] at hs
        refine ok_eq (fun e3 => ok_some ?_) (fun e3 => by omega)
        rw [← hs]
        exact ⟨hnd, Or.inl ⟨rfl, rfl, q3⟩⟩
      · have htg : tg nm J (tx t s) = 0 := by
          have := hjs ⟨q1.1, q1.2.1⟩
          omega
        rw [if_pos ⟨q1.1, q1.2.1, htg⟩] at hs
        refine ok_eq (fun e3 => ok_some ?_) (fun e3 => ?_)
        · rw [if_neg (fun z => by have := q3.mpr z; omega)] at hs
          rw [← hs]
          exact ⟨hnd, Or.inl ⟨rfl, rfl, q4⟩⟩
        · have e9 : o17.1.toInt = 1 := by omega
          rw [if_pos (q3.mp e9)] at hs
          obtain ⟨r1, r2, r3, r4, r5⟩ := q5 e9
          have hx31 : (x3 + 1).toInt = x3.toInt + 1 := by
            clear q1 q2 q3 q4 r1 r2 r3 r4 r5 q5 hs hW hjol how ih hjs hbs
            first | omega | (simp only [i_add, i_sub, i_mul, l_add, l_sub, Int32.reduceToInt, Int64.reduceToInt, cl_n, true_or, or_true, true_and, and_true, and_self] at *; omega) | (simp only [i_add, i_sub, i_mul, l_add, l_sub, Int32.reduceToInt, Int64.reduceToInt, cl_n, true_or, or_true, true_and, and_true, and_self] at *; done)
          have hsj := sj_le (T := tx t) hsn
          refine ih _ _ _ _ _ _ _ _ _ _ ⟨J + 1, _, _, _, _, by omega, ?_, q4, hsj.1, by rw [r3]; omega, by rw [show 26 - (J + 1) = 25 - J from by omega]; exact hs, wf_more hW (by omega) hsn, fun l hl => ?_, fun j k a1 a2 a3 => ?_⟩ (by omega)
          · rw [r1]
            show _ = ((bs (fun j => if j = J + 1 then (sj (tx t) n s).2.2.1 else cn j) J + (if J + 1 = J + 1 then (sj (tx t) n s).2.2.1 else cn (J + 1)) : Nat) : Int)
            rw [bs_more (Nat.le_refl _), if_pos rfl]
            omega
          · rw [r2, tg_more]
            by_cases e8 : l = (tx t s - 97).toNat
            · rw [if_pos (by omega), e8, pk_us]
              omega
            · rw [if_neg (by omega), pk_un e8]
              exact hjol l hl
          · rw [bs_more (by omega)]
            try dsimp only at a3
            try dsimp only
            by_cases e8 : j = J + 1
            · rw [if_pos e8] at a3 ⊢
              rw [e8, show J + 1 - 1 = J from rfl, (r5 k a3).1]
              exact ⟨by omega, (r5 k a3).2⟩
            · rw [if_neg e8] at a3 ⊢
              have b1 := bs_step (cn := cn) a1
              have b2 := bs_mono (cn := cn) J (show j ≤ J from by omega)
              rw [(r4 _ (by omega)).1, (r4 _ (by omega)).2]
              exact how j k a1 (by omega) a3
    · have e26 : fin = (true, sk (tx t) n a, J, nm, cn, pl) := by
        by_cases e9 : J = 26
        · omega
        · rw [show 26 - J = (25 - J) + 1 from by omega] at hs
          unfold sp at hs
          rw [if_pos (show n ≤ sk (tx t) n a from by omega)] at hs
          exact hs.symm
      refine tf_tail hl hn ho16 hsk hW hx4 hx11 hjol how hnc hal hnd hN ?_
      rw [sk_sk ha, decide_eq_true (show n ≤ sk (tx t) n a from by omega)]
      exact e26
  · rw [ho2 l hl]; exact hz
