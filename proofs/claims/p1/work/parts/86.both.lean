-- 86.both: read() in class and reference answers alike
theorem rd_both {N n : Nat} {pending lenA at0 number starts ringlen netj spj : Int32} {text jol ow np cnd states kcounts row queue before nc al spc spl : Nat → Int32} {ksums : Nat → Int64} {netn nd cond spn spd spo : Nat → Nat → Int32}
    {code lenB jobs newJobs started ringSize place : Int32} {now : Int64} {textB names cals prios startsB est many newNames numbers newMany needs conds newNeeds newConds needPlaces statesB kept ring came lev pth : Nat → Int32} {sums : Nat → Int64}
    (hlA : lenA.toInt = (n : Int)) (hlB : lenB.toInt = (n : Int)) (hn : n ≤ 2000) (ht : tr n text textB) (hnr : NR netj nc nd al jobs many needs) (hre : RE ringlen row ringSize ring) (hsp : gg spd 27 20 0 26) (hest : rg est 27 0 999999) (hN : 4000 ≤ N) :
    ok (md_A_read N pending lenA at0 number text jol ow np cnd starts states ksums kcounts ringlen row queue before netj netn nc nd cond al spj spn spc spd spo spl) (fun oA =>
      ok (md_B_read N code lenB jobs newJobs now started ringSize place textB names cals prios startsB est many newNames numbers newMany needs conds newNeeds newConds needPlaces statesB sums kept ring came lev pth) (fun oB =>
        oA.1 = oB.1 ∧ (oA.2.2.1).toInt = 0 ∧ (oB.2.2.1).toInt = 0 ∧ RE (oA.2.2.2.2.2.2.2.2.2.2.2.2.2.1) (oA.2.2.2.2.2.2.2.2.2.2.2.2.2.2.1) (oB.2.2.2.2.2.2.2.1) (oB.2.2.2.2.2.2.2.2.2.2.2.2.2.2.2.2.2.2.2.2.2.2.2.2.2.2.1) ∧ NR (oA.2.2.2.2.2.2.2.2.2.2.2.2.2.2.2.2.2.1) (oA.2.2.2.2.2.2.2.2.2.2.2.2.2.2.2.2.2.2.2.1) (oA.2.2.2.2.2.2.2.2.2.2.2.2.2.2.2.2.2.2.2.2.1) (oA.2.2.2.2.2.2.2.2.2.2.2.2.2.2.2.2.2.2.2.2.2.2.1) (oB.2.2.2.1) (oB.2.2.2.2.2.2.2.2.2.2.2.2.2.2.1) (oB.2.2.2.2.2.2.2.2.2.2.2.2.2.2.2.2.2.2.1) ∧ gg (oA.2.2.2.2.2.2.2.2.2.2.2.2.2.2.2.2.2.2.2.2.2.2.2.2.2.2.1) 27 20 0 26 ∧ (oA.2.2.2.2.2.2.2.2.2.1 = starts ∨ (oA.2.2.2.2.2.2.2.2.2.1).toInt = 0) ∧ (oB.2.2.2.2.2.2.1 = started ∨ (oB.2.2.2.2.2.2.1).toInt = 0) ∧ rg (oB.2.2.2.2.2.2.2.2.2.2.2.2.2.1) 27 0 999999)) := by
  have hz : (0 : Int32).toInt = 0 := rfl
  have hm1 : (-1 : Int32).toInt = -1 := rfl
  generalize hfin : sp (tx text) n 26 0 0 (fun _ => 0) (fun _ => 0) (fun _ _ => 0) = fin
  unfold md_A_read
  refine ok_zc (tf_parse hlA hn hsp hN hfin) (fun o1 ho1 => ?_)
  refine ok_zc (Q := fun a => a = o1.2.2.1) ⟨_, rfl, rfl⟩ (fun o2 ho2 => ok_zc (Q := fun a => a = (0 : Int32)) ⟨_, rfl, rfl⟩ (fun o3 ho3 => ?_))
  subst ho2
  subst ho3
  refine ok_eq (fun e1 => ok_some ?_) (fun e1 => ?_)
  · unfold md_B_read
    refine ok_zc (uf_fault ht hlB hn hN hfin) (fun p1 hp1 => ?_)
    have hq := po_0 ho1 hp1 (e1.trans hz)
    refine ok_eq (fun e2 => absurd (e2.trans hm1) hq.2) (fun e2 => ok_some ⟨?_, rfl, rfl, hre, hnr, ho1.1, Or.inl rfl, Or.inl rfl, hest⟩)
    show (-1 : Int32) - o1.2.2.1 = (-1 : Int32) - p1.1
    rw [Int32.toInt_inj.mp hq.1]
  · have e1' : ¬ o1.1.toInt = 0 := fun z => e1 (z.trans hz.symm)
    obtain ⟨p1, f1, hp1⟩ := uf_fault (nj0 := newJobs) (pl0 := place) (names := newNames) (numbers := numbers) (many := newMany) (needs := newNeeds) (conds := newConds) (places := needPlaces) ht hlB hn hN hfin
    obtain ⟨hq1, hq2, J, hJ, hjA, hjB, hrg, hnt, hcl, hag, hnum⟩ := po_1 ho1 hp1 e1'
    obtain ⟨oA, eA, oB, eB, hab, hring⟩ := ring_both (q := queue) (bf := before) (came := came) (lev := lev) (pth := pth) hjA hjB hnt hcl hag hre hN
    refine ok_zc (Q := fun a => a = oA) ⟨_, eA, rfl⟩ (fun o4 ho4 => ?_)
    subst ho4
    refine ok_eq (fun e2 => ?_) (fun e2 => ok_some ?_)
    · have hd : ok (md_Pla_drop N starts states) (fun o => o.1.toInt = 0) := by
        unfold md_Pla_drop
        exact ok_zc (sf_fillI (by omega) hN) (fun o _ => ok_some rfl)
      have hf : ok (md_Kep_forget N ksums kcounts) (fun _ => True) := by
        unfold md_Kep_forget
        exact ok_zc (sf_fillL (by omega) hN) (fun o _ => ok_zc (sf_fillI (by omega) hN) (fun o2 _ => ok_some trivial))
      refine ok_zc hd (fun o5 ho5 => ok_zc hf (fun o6 _ => ok_some ?_))
      unfold md_B_read
      refine ok_zc (Q := fun a => a = p1) ⟨_, f1, rfl⟩ (fun p2 hp2 => ?_)
      subst hp2
      refine ok_eq (fun e3 => ?_) (fun e3 => absurd (hq1.trans hm1.symm) e3)
      refine ok_zc (Q := fun a => a = oB) ⟨_, eB, rfl⟩ (fun p3 hp3 => ?_)
      subst hp3
      refine ok_eq (fun e4 => ?_) (fun e4 => by omega)
      refine ok_mono (rb_copy hjB hJ hnum hest hN) (fun o ho => ?_)
      obtain ⟨g1, g2, g3, g4, g5, g6, g7, g8, g9⟩ := ho
      have ejj : o1.2.2.2.2.2.2.2.2.1 = p2.2.1 := Int32.toInt_inj.mp (hjA.trans hjB.symm)
      have eJ : o1.2.2.2.2.2.2.2.2.1.toInt.toNat = J := by omega
      rw [g1, g3, g5, g6]
      refine ⟨ejj, rfl, g2, hring, ⟨ejj, by show 0 ≤ o1.2.2.2.2.2.2.2.2.1.toInt; omega, by show o1.2.2.2.2.2.2.2.2.1.toInt ≤ 26; omega, hrg, ho1.1, ?_, ?_, ?_⟩, hnr.2.2.2.2.1, Or.inr ho5, Or.inr g4, g7⟩
      · show nt o1.2.2.2.2.2.2.2.2.1.toInt.toNat _ _
        rw [eJ]; exact hnt
      · show ag o1.2.2.2.2.2.2.2.2.1.toInt.toNat _ _ _ _
        rw [eJ]
        intro j j1 j2
        have c1 := hag j j1 j2
        have c2 := hnt.2 j j1 j2
        rw [g8 j j1 j2]
        refine ⟨c1.1, fun k hk => ?_⟩
        have hk2 : (k : Int) < (o1.2.2.2.2.2.2.2.2.2.2.1 j).toInt := hk
        rw [g9 _ (by omega)]
        exact c1.2 k hk
      · show CL o1.2.2.2.2.2.2.2.2.1.toInt.toNat _ _ _
        rw [eJ]; exact hcl
    · unfold md_B_read
      refine ok_zc (Q := fun a => a = p1) ⟨_, f1, rfl⟩ (fun p2 hp2 => ?_)
      subst hp2
      refine ok_eq (fun e3 => ?_) (fun e3 => absurd (hq1.trans hm1.symm) e3)
      refine ok_zc (Q := fun a => a = oB) ⟨_, eB, rfl⟩ (fun p3 hp3 => ?_)
      subst hp3
      refine ok_eq (fun e4 => by omega) (fun e4 => ok_some ⟨?_, rfl, rfl, hring, hnr, ho1.1, Or.inl rfl, Or.inl rfl, hest⟩)
      show (-1 : Int32) - o1.2.2.1 = (-1 : Int32) - lenB
      rw [Int32.toInt_inj.mp (hq2.trans hlB.symm)]
