theorem d_Rin_findFirst_0 : decode prog_7_method_2_code 0 = .ok (.iconst 1, 1) := by decide +kernel
theorem d_Rin_findFirst_1 : decode prog_7_method_2_code 1 = .ok (.istore_n 3, 1) := by decide +kernel
theorem d_Rin_findFirst_2 : decode prog_7_method_2_code 2 = .ok (.iload_n 3, 1) := by decide +kernel
theorem d_Rin_findFirst_3 : decode prog_7_method_2_code 3 = .ok (.aload_n 1, 1) := by decide +kernel
theorem d_Rin_findFirst_4 : decode prog_7_method_2_code 4 = .ok (.getfield 18, 3) := by decide +kernel
theorem d_Rin_findFirst_7 : decode prog_7_method_2_code 7 = .ok (.if_icmp .gt 61, 3) := by decide +kernel
theorem d_Rin_findFirst_10 : decode prog_7_method_2_code 10 = .ok (.iconst 0, 1) := by decide +kernel
theorem d_Rin_findFirst_11 : decode prog_7_method_2_code 11 = .ok (.istore 4, 2) := by decide +kernel
theorem d_Rin_findFirst_13 : decode prog_7_method_2_code 13 = .ok (.iload 4, 2) := by decide +kernel
theorem d_Rin_findFirst_15 : decode prog_7_method_2_code 15 = .ok (.aload_n 1, 1) := by decide +kernel
theorem d_Rin_findFirst_16 : decode prog_7_method_2_code 16 = .ok (.getfield 24, 3) := by decide +kernel
theorem d_Rin_findFirst_19 : decode prog_7_method_2_code 19 = .ok (.iload_n 3, 1) := by decide +kernel
theorem d_Rin_findFirst_20 : decode prog_7_method_2_code 20 = .ok (.iaload, 1) := by decide +kernel
theorem d_Rin_findFirst_21 : decode prog_7_method_2_code 21 = .ok (.if_icmp .ge 41, 3) := by decide +kernel
theorem d_Rin_findFirst_24 : decode prog_7_method_2_code 24 = .ok (.aload_n 1, 1) := by decide +kernel
theorem d_Rin_findFirst_25 : decode prog_7_method_2_code 25 = .ok (.getfield 27, 3) := by decide +kernel
theorem d_Rin_findFirst_28 : decode prog_7_method_2_code 28 = .ok (.iload_n 3, 1) := by decide +kernel
theorem d_Rin_findFirst_29 : decode prog_7_method_2_code 29 = .ok (.aaload, 1) := by decide +kernel
theorem d_Rin_findFirst_30 : decode prog_7_method_2_code 30 = .ok (.iload 4, 2) := by decide +kernel
theorem d_Rin_findFirst_32 : decode prog_7_method_2_code 32 = .ok (.iaload, 1) := by decide +kernel
theorem d_Rin_findFirst_33 : decode prog_7_method_2_code 33 = .ok (.istore 5, 2) := by decide +kernel
theorem d_Rin_findFirst_35 : decode prog_7_method_2_code 35 = .ok (.aload_n 1, 1) := by decide +kernel
theorem d_Rin_findFirst_36 : decode prog_7_method_2_code 36 = .ok (.iload_n 3, 1) := by decide +kernel
theorem d_Rin_findFirst_37 : decode prog_7_method_2_code 37 = .ok (.iload 5, 2) := by decide +kernel
theorem d_Rin_findFirst_39 : decode prog_7_method_2_code 39 = .ok (.invokevirtual 31, 3) := by decide +kernel
theorem d_Rin_findFirst_42 : decode prog_7_method_2_code 42 = .ok (.ifCond .eq 14, 3) := by decide +kernel
theorem d_Rin_findFirst_45 : decode prog_7_method_2_code 45 = .ok (.aload_n 0, 1) := by decide +kernel
theorem d_Rin_findFirst_46 : decode prog_7_method_2_code 46 = .ok (.aload_n 1, 1) := by decide +kernel
theorem d_Rin_findFirst_47 : decode prog_7_method_2_code 47 = .ok (.iload 5, 2) := by decide +kernel
theorem d_Rin_findFirst_49 : decode prog_7_method_2_code 49 = .ok (.iload_n 3, 1) := by decide +kernel
theorem d_Rin_findFirst_50 : decode prog_7_method_2_code 50 = .ok (.aload_n 2, 1) := by decide +kernel
theorem d_Rin_findFirst_51 : decode prog_7_method_2_code 51 = .ok (.invokevirtual 35, 3) := by decide +kernel
theorem d_Rin_findFirst_54 : decode prog_7_method_2_code 54 = .ok (.iconst 1, 1) := by decide +kernel
theorem d_Rin_findFirst_55 : decode prog_7_method_2_code 55 = .ok (.ireturn, 1) := by decide +kernel
theorem d_Rin_findFirst_56 : decode prog_7_method_2_code 56 = .ok (.iinc 4 1, 3) := by decide +kernel
theorem d_Rin_findFirst_59 : decode prog_7_method_2_code 59 = .ok (.goto (-46), 3) := by decide +kernel
theorem d_Rin_findFirst_62 : decode prog_7_method_2_code 62 = .ok (.iinc 3 1, 3) := by decide +kernel
theorem d_Rin_findFirst_65 : decode prog_7_method_2_code 65 = .ok (.goto (-63), 3) := by decide +kernel
theorem d_Rin_findFirst_68 : decode prog_7_method_2_code 68 = .ok (.iconst 0, 1) := by decide +kernel
theorem d_Rin_findFirst_69 : decode prog_7_method_2_code 69 = .ok (.ireturn, 1) := by decide +kernel
def md_Rin_findFirst_F13 (f_p0_queue : Nat → Int32) (f_p0_before : Nat → Int32) (f_p1_needCounts : Nat → Int32) (g_p1_needed : Nat → Nat → Int32) (f_p1_allNeeded : Nat → Int32) (v_p2_length : Int32) (f_p2_row : Nat → Int32) (N : Nat) (x1 : Int32) (rec2 : Int32 → Option (Int32 × (Nat → Int32) × (Nat → Int32) × Int32 × (Nat → Int32))) (rec13 : Int32 → Option (Int32 × (Nat → Int32) × (Nat → Int32) × Int32 × (Nat → Int32))) (x2 : Int32) : Option (Int32 × (Nat → Int32) × (Nat → Int32) × Int32 × (Nat → Int32)) :=
  (if sg_in x1 27 = true then (if (f_p1_needCounts x1.toNatClampNeg) ≤ x2 then (rec2 (x1 + 1)) else (if sg_in x1 27 = true then (if sg_in x2 20 = true then (zl (g_p1_needed x1.toNatClampNeg x2.toNatClampNeg) (fun x4 => (zc (md_Net_closesRing N f_p1_allNeeded x1 x4) (fun o5 => (if o5 = 0 then (rec13 (x2 + 1)) else (zc (md_Rin_find N f_p0_queue f_p0_before f_p1_needCounts g_p1_needed v_p2_length f_p2_row x4 x1) (fun o6 => (some ((1 : Int32), o6.1, o6.2.1, o6.2.2.1, o6.2.2.2))))))))) else none) else none)) else none)
def md_Rin_findFirst_F2 (f_p0_queue : Nat → Int32) (f_p0_before : Nat → Int32) (v_p1_jobs : Int32) (f_p1_needCounts : Nat → Int32) (g_p1_needed : Nat → Nat → Int32) (f_p1_allNeeded : Nat → Int32) (v_p2_length : Int32) (f_p2_row : Nat → Int32) (N : Nat) (rec2 : Int32 → Option (Int32 × (Nat → Int32) × (Nat → Int32) × Int32 × (Nat → Int32))) (x1 : Int32) : Option (Int32 × (Nat → Int32) × (Nat → Int32) × Int32 × (Nat → Int32)) :=
  (if v_p1_jobs < x1 then (some ((0 : Int32), f_p0_queue, f_p0_before, v_p2_length, f_p2_row)) else (fx1 (md_Rin_findFirst_F13 f_p0_queue f_p0_before f_p1_needCounts g_p1_needed f_p1_allNeeded v_p2_length f_p2_row N x1 rec2) N (0 : Int32)))
def md_Rin_findFirst (N : Nat) (f_p0_queue : Nat → Int32) (f_p0_before : Nat → Int32) (v_p1_jobs : Int32) (f_p1_needCounts : Nat → Int32) (g_p1_needed : Nat → Nat → Int32) (f_p1_allNeeded : Nat → Int32) (v_p2_length : Int32) (f_p2_row : Nat → Int32) : Option (Int32 × (Nat → Int32) × (Nat → Int32) × Int32 × (Nat → Int32)) :=
  (fx1 (md_Rin_findFirst_F2 f_p0_queue f_p0_before v_p1_jobs f_p1_needCounts g_p1_needed f_p1_allNeeded v_p2_length f_p2_row N) N (1 : Int32))
abbrev sc_Rin_findFirst (cI cL cM cZ : ClassId) (q_p0 q_p1 q_p2 q_p0_queue q_p0_before q_p1_numbers q_p1_needCounts q_p1_needed q_p1_conditions q_p1_allNeeded q_p2_row : Nat) (d_p1_needed : Nat → Nat) (f_p0_queue : Nat → Int32) (f_p0_before : Nat → Int32) (v_p1_jobs : Int32) (f_p1_needCounts : Nat → Int32) (g_p1_needed : Nat → Nat → Int32) (f_p1_allNeeded : Nat → Int32) (v_p2_length : Int32) (f_p2_row : Nat → Int32) : List va_W := [[(q_p0, .inr (6, [.ref q_p0_queue, .ref q_p0_before]))], [(q_p0_queue, .inl (cI, 26, .inl f_p0_queue))], [(q_p0_before, .inl (cI, 27, .inl f_p0_before))], [(q_p1, .inr (4, [.ref q_p1_numbers, .ref q_p1_needCounts, .ref q_p1_needed, .ref q_p1_conditions, .ref q_p1_allNeeded, .int v_p1_jobs]))], [(q_p1_needCounts, .inl (cI, 27, .inl f_p1_needCounts))], [(q_p1_needed, .inl (cM, gro 27 d_p1_needed))], gl cI d_p1_needed 27 20 g_p1_needed, [(q_p1_allNeeded, .inl (cI, 27, .inl f_p1_allNeeded))], [(q_p2, .inr (8, [.ref q_p2_row, .int v_p2_length]))], [(q_p2_row, .inl (cI, 26, .inl f_p2_row))]]
abbrev rm_Rin_findFirst : Room := { frames := 2, cells := 0, slots := 0, locals := 52 }
set_option maxHeartbeats 4000000 in
set_option maxRecDepth 100000 in
theorem ct_Rin_findFirst (l : Launch) (dC : Nat → ClassId) (dI : Nat → Nat → Nat) (cI cL cM cZ : ClassId) (q_p0 q_p1 q_p2 q_p0_queue q_p0_before q_p1_numbers q_p1_needCounts q_p1_needed q_p1_conditions q_p1_allNeeded q_p2_row : Nat) (d_p1_needed : Nat → Nat) (f_p0_queue : Nat → Int32) (f_p0_before : Nat → Int32) (v_p1_jobs : Int32) (f_p1_needCounts : Nat → Int32) (g_p1_needed : Nat → Nat → Int32) (f_p1_allNeeded : Nat → Int32) (v_p2_length : Int32) (f_p2_row : Nat → Int32) (N : Nat) (o : Int32 × (Nat → Int32) × (Nat → Int32) × Int32 × (Nat → Int32)) (hm : md_Rin_findFirst N f_p0_queue f_p0_before v_p1_jobs f_p1_needCounts g_p1_needed f_p1_allNeeded v_p2_length f_p2_row = some o) : ∀ sz : Nat, Met l y_Rin_findFirst ws_Rin_findFirst rm_Rin_findFirst (cP (dC, dI) vwCl [(cI, .int), (cL, .long), (cM, .array .int), (cZ, .boolean)] [.ref q_p0, .ref q_p1, .ref q_p2] sz (sc_Rin_findFirst cI cL cM cZ q_p0 q_p1 q_p2 q_p0_queue q_p0_before q_p1_numbers q_p1_needCounts q_p1_needed q_p1_conditions q_p1_allNeeded q_p2_row d_p1_needed f_p0_queue f_p0_before v_p1_jobs f_p1_needCounts g_p1_needed f_p1_allNeeded v_p2_length f_p2_row)) (cQi (dC, dI) vwCl [(cI, .int), (cL, .long), (cM, .array .int), (cZ, .boolean)] sz (sc_Rin_findFirst cI cL cM cZ q_p0 q_p1 q_p2 q_p0_queue q_p0_before q_p1_numbers q_p1_needCounts q_p1_needed q_p1_conditions q_p1_allNeeded q_p2_row d_p1_needed f_p0_queue f_p0_before v_p1_jobs f_p1_needCounts g_p1_needed f_p1_allNeeded v_p2_length f_p2_row) o.1 (sc_Rin_findFirst cI cL cM cZ q_p0 q_p1 q_p2 q_p0_queue q_p0_before q_p1_numbers q_p1_needCounts q_p1_needed q_p1_conditions q_p1_allNeeded q_p2_row d_p1_needed o.2.1 o.2.2.1 v_p1_jobs f_p1_needCounts g_p1_needed f_p1_allNeeded o.2.2.2.1 o.2.2.2.2)) 0 0 (va_A ((sc_Rin_findFirst cI cL cM cZ q_p0 q_p1 q_p2 q_p0_queue q_p0_before q_p1_numbers q_p1_needCounts q_p1_needed q_p1_conditions q_p1_allNeeded q_p2_row d_p1_needed f_p0_queue f_p0_before v_p1_jobs f_p1_needCounts g_p1_needed f_p1_allNeeded v_p2_length f_p2_row)).flatten sz) := by
  refine sg_met (fun sz => cQi (dC, dI) vwCl [(cI, .int), (cL, .long), (cM, .array .int), (cZ, .boolean)] sz (sc_Rin_findFirst cI cL cM cZ q_p0 q_p1 q_p2 q_p0_queue q_p0_before q_p1_numbers q_p1_needCounts q_p1_needed q_p1_conditions q_p1_allNeeded q_p2_row d_p1_needed f_p0_queue f_p0_before v_p1_jobs f_p1_needCounts g_p1_needed f_p1_allNeeded v_p2_length f_p2_row) o.1 (sc_Rin_findFirst cI cL cM cZ q_p0 q_p1 q_p2 q_p0_queue q_p0_before q_p1_numbers q_p1_needCounts q_p1_needed q_p1_conditions q_p1_allNeeded q_p2_row d_p1_needed o.2.1 o.2.2.1 v_p1_jobs f_p1_needCounts g_p1_needed f_p1_allNeeded o.2.2.2.1 o.2.2.2.2)) (by decide) (Nat.le_of_ble_eq_true rfl) ?_
  intro p e s m args below meth c A Q ls hx hb hr hts hown hlocks hml hname hK hNW hA hAe hQ hw hl
  have hl : lv_has ls 6 [(0, .ref q_p0), (1, .ref q_p1), (2, .ref q_p2)] := hl
  have hw : wk (dC, dI) vwCl A s.heap [[(q_p0, .inr (6, [.ref q_p0_queue, .ref q_p0_before]))], [(q_p0_queue, .inl (cI, 26, .inl f_p0_queue))], [(q_p0_before, .inl (cI, 27, .inl f_p0_before))], [(q_p1, .inr (4, [.ref q_p1_numbers, .ref q_p1_needCounts, .ref q_p1_needed, .ref q_p1_conditions, .ref q_p1_allNeeded, .int v_p1_jobs]))], [(q_p1_needCounts, .inl (cI, 27, .inl f_p1_needCounts))], [(q_p1_needed, .inl (cM, gro 27 d_p1_needed))], gl cI d_p1_needed 27 20 g_p1_needed, [(q_p1_allNeeded, .inl (cI, 27, .inl f_p1_allNeeded))], [(q_p2, .inr (8, [.ref q_p2_row, .int v_p2_length]))], [(q_p2_row, .inl (cI, 26, .inl f_p2_row))]] s.heap [] := hw
  unfold md_Rin_findFirst at hm
  refine lv_iconst (v := 1) hx hb d_Rin_findFirst_0 (by decide) ?_
  refine lv_istore_n (lv' := [(3, .int (1 : Int32)), (0, .ref q_p0), (1, .ref q_p1), (2, .ref q_p2)]) hx hb d_Rin_findFirst_1 rfl hl (by decide) rfl (fun ls hl => ?_)
  obtain ⟨Fn2, hFn2, hm⟩ := fx1_x hm
  have L2 : ∀ (n : Nat) (x1 : Int32), fx1 Fn2 n x1 = some o → ∀ (H : Heap) (locs : List Loc) (ls : Array Slot), wk (dC, dI) vwCl A s.heap [[(q_p0, .inr (6, [.ref q_p0_queue, .ref q_p0_before]))], [(q_p0_queue, .inl (cI, 26, .inl f_p0_queue))], [(q_p0_before, .inl (cI, 27, .inl f_p0_before))], [(q_p1, .inr (4, [.ref q_p1_numbers, .ref q_p1_needCounts, .ref q_p1_needed, .ref q_p1_conditions, .ref q_p1_allNeeded, .int v_p1_jobs]))], [(q_p1_needCounts, .inl (cI, 27, .inl f_p1_needCounts))], [(q_p1_needed, .inl (cM, gro 27 d_p1_needed))], gl cI d_p1_needed 27 20 g_p1_needed, [(q_p1_allNeeded, .inl (cI, 27, .inl f_p1_allNeeded))], [(q_p2, .inr (8, [.ref q_p2_row, .int v_p2_length]))], [(q_p2_row, .inl (cI, 26, .inl f_p2_row))]] H locs → lv_has ls 6 [(3, .int x1), (0, .ref q_p0), (1, .ref q_p1), (2, .ref q_p2)] → W p l e rm_Rin_findFirst s m args below meth c H locs 0 0 Q (F0 m 2 ls []) := by
    intro n
    induction n with
    | zero => intro x1 hm; exact (fx1_0 hm).elim
    | succ n ih2 =>
      intro x1 hm H locs ls hw hl
      have hm := fx1_s hFn2 hm
      unfold md_Rin_findFirst_F2 at hm
      refine lv_iload_n hx hb d_Rin_findFirst_2 rfl (lv_at hl 0 rfl) ?_
      refine lv_aload_n hx hb d_Rin_findFirst_3 rfl (lv_at hl 2 rfl) ?_
      refine sg_getN (D := (dC, dI)) (ci := 4) (v := .int v_p1_jobs) (C := "JobNets$Net") (T := T_4) (N := 6) hx hb hts hin_4 hown hK hw 3 rfl rfl 5 (by decide) (nF_25 hNW) rfl rfl d_Rin_findFirst_4 ?_
      refine bq_t (lv_icmp_gt (tgt := 68) hx hb d_Rin_findFirst_7 (by decide)) hm (fun hm => ?_) (fun hm => ?_)
      · refine lv_iconst (v := 0) hx hb d_Rin_findFirst_68 (by decide) ?_
        obtain rfl := Option.some.inj hm
        exact sg_zret hx hb hr rfl hlocks hAe hQ hK hw d_Rin_findFirst_69
      · refine lv_iconst (v := 0) hx hb d_Rin_findFirst_10 (by decide) ?_
        refine lv_istore (lv' := [(4, .int (0 : Int32)), (3, .int x1), (0, .ref q_p0), (1, .ref q_p1), (2, .ref q_p2)]) hx hb d_Rin_findFirst_11 hl (by decide) rfl (fun ls hl => ?_)
        obtain ⟨Fn13, hFn13, hm⟩ := fx1_x hm
        have L13 : ∀ (n : Nat) (x2 : Int32), fx1 Fn13 n x2 = some o → ∀ (H : Heap) (locs : List Loc) (ls : Array Slot), wk (dC, dI) vwCl A s.heap [[(q_p0, .inr (6, [.ref q_p0_queue, .ref q_p0_before]))], [(q_p0_queue, .inl (cI, 26, .inl f_p0_queue))], [(q_p0_before, .inl (cI, 27, .inl f_p0_before))], [(q_p1, .inr (4, [.ref q_p1_numbers, .ref q_p1_needCounts, .ref q_p1_needed, .ref q_p1_conditions, .ref q_p1_allNeeded, .int v_p1_jobs]))], [(q_p1_needCounts, .inl (cI, 27, .inl f_p1_needCounts))], [(q_p1_needed, .inl (cM, gro 27 d_p1_needed))], gl cI d_p1_needed 27 20 g_p1_needed, [(q_p1_allNeeded, .inl (cI, 27, .inl f_p1_allNeeded))], [(q_p2, .inr (8, [.ref q_p2_row, .int v_p2_length]))], [(q_p2_row, .inl (cI, 26, .inl f_p2_row))]] H locs → lv_has ls 6 [(4, .int x2), (3, .int x1), (0, .ref q_p0), (1, .ref q_p1), (2, .ref q_p2)] → W p l e rm_Rin_findFirst s m args below meth c H locs 0 0 Q (F0 m 13 ls []) := by
          intro n
          induction n with
          | zero => intro x2 hm; exact (fx1_0 hm).elim
          | succ n ih13 =>
            intro x2 hm H locs ls hw hl
            have hm := fx1_s hFn13 hm
            unfold md_Rin_findFirst_F13 at hm
            refine lv_iload hx hb d_Rin_findFirst_13 (lv_at hl 0 rfl) ?_
            refine lv_aload_n hx hb d_Rin_findFirst_15 rfl (lv_at hl 3 rfl) ?_
            refine sg_getN (D := (dC, dI)) (ci := 4) (v := .ref q_p1_needCounts) (C := "JobNets$Net") (T := T_4) (N := 6) hx hb hts hin_4 hown hK hw 3 rfl rfl 1 (by decide) (nF_16 hNW) rfl rfl d_Rin_findFirst_16 ?_
            refine lv_iload_n hx hb d_Rin_findFirst_19 rfl (lv_at hl 1 rfl) ?_
            refine sg_iald hx hb hK hw 4 0 rfl rfl d_Rin_findFirst_20 hm (fun hm => ?_)
            refine bq_t (lv_icmp_ge (tgt := 62) hx hb d_Rin_findFirst_21 (by decide)) hm (fun hm => ?_) (fun hm => ?_)
            · refine lv_iinc (v := x1 + 1) (lv' := [(3, .int (x1 + 1)), (4, .int x2), (0, .ref q_p0), (1, .ref q_p1), (2, .ref q_p2)]) hx hb d_Rin_findFirst_62 hl (k := 1) rfl rfl (by decide) rfl (fun ls hl => ?_)
              refine lv_goto (tgt := 2) hx hb d_Rin_findFirst_65 (by decide) ?_
              exact ih2 (x1 + 1) hm _ _ _ hw (lv_sub hl [0, 2, 3, 4] rfl)
            · refine lv_aload_n hx hb d_Rin_findFirst_24 rfl (lv_at hl 3 rfl) ?_
              refine sg_getN (D := (dC, dI)) (ci := 4) (v := .ref q_p1_needed) (C := "JobNets$Net") (T := T_4) (N := 6) hx hb hts hin_4 hown hK hw 3 rfl rfl 2 (by decide) (nF_20 hNW) rfl rfl d_Rin_findFirst_25 ?_
              refine lv_iload_n hx hb d_Rin_findFirst_28 rfl (lv_at hl 1 rfl) ?_
              obtain ⟨hi3, hm⟩ := it_n hm
              refine sg_aald hx hb hK hw 5 2 rfl rfl hi3 d_Rin_findFirst_29 ?_
              refine lv_iload hx hb d_Rin_findFirst_30 (lv_at hl 0 rfl) ?_
              refine sg_rald hx hb hK hw 6 0 rfl (sg_lt hi3) rfl d_Rin_findFirst_32 hm (fun hm => ?_)
              refine nm_i hm (fun x4 hm => ?_)
              refine lv_istore (lv' := [(5, .int x4), (4, .int x2), (3, .int x1), (0, .ref q_p0), (1, .ref q_p1), (2, .ref q_p2)]) hx hb d_Rin_findFirst_33 hl (by decide) rfl (fun ls hl => ?_)
              refine lv_aload_n hx hb d_Rin_findFirst_35 rfl (lv_at hl 4 rfl) ?_
              refine lv_iload_n hx hb d_Rin_findFirst_36 rfl (lv_at hl 2 rfl) ?_
              refine lv_iload hx hb d_Rin_findFirst_37 (lv_at hl 0 rfl) ?_
              obtain ⟨o5, h5, hm⟩ := zc_x hm
              refine sg_ci0 (Sr := [[(q_p0, .inr (6, [.ref q_p0_queue, .ref q_p0_before]))], [(q_p0_queue, .inl (cI, 26, .inl f_p0_queue))], [(q_p0_before, .inl (cI, 27, .inl f_p0_before))], [(q_p1_needCounts, .inl (cI, 27, .inl f_p1_needCounts))], [(q_p1_needed, .inl (cM, gro 27 d_p1_needed))], gl cI d_p1_needed 27 20 g_p1_needed, [(q_p2, .inr (8, [.ref q_p2_row, .int v_p2_length]))], [(q_p2_row, .inl (cI, 26, .inl f_p2_row))]]) (va_runV (As := [.int x1, .int x4]) (rest := []) ⟨hx, hb, hml, hown, hts⟩ (ct_Net_closesRing l dC dI cI cL cM cZ q_p1 q_p1_numbers q_p1_needCounts q_p1_needed q_p1_conditions q_p1_allNeeded v_p1_jobs f_p1_allNeeded x1 x4 N o5 h5 _) (cwV 2 hts (gd_V wd_326 wd_327 wd_328 wd_9 wd_329) rfl rfl rfl (by decide +kernel) ⟨Nat.le_of_ble_eq_true rfl, Nat.le_of_ble_eq_true rfl⟩) (sg_preV (ci := 4) (q0 := 3) hK hNW hw [3, 7] rfl rfl rfl rfl) rfl rfl hl.1 rfl (lv_room (Nat.le_of_ble_eq_true rfl)) d_Rin_findFirst_39 ⟨Nat.le_of_ble_eq_true rfl, Nat.le_of_ble_eq_true rfl⟩) hw hA [3, 7] [0, 1, 2, 4, 5, 6, 8, 9] rfl rfl rfl (by decide) (fun H locs hw => ?_)
              have hw : wk (dC, dI) vwCl A s.heap [[(q_p0, .inr (6, [.ref q_p0_queue, .ref q_p0_before]))], [(q_p0_queue, .inl (cI, 26, .inl f_p0_queue))], [(q_p0_before, .inl (cI, 27, .inl f_p0_before))], [(q_p1_needCounts, .inl (cI, 27, .inl f_p1_needCounts))], [(q_p1_needed, .inl (cM, gro 27 d_p1_needed))], gl cI d_p1_needed 27 20 g_p1_needed, [(q_p2, .inr (8, [.ref q_p2_row, .int v_p2_length]))], [(q_p2_row, .inl (cI, 26, .inl f_p2_row))], [(q_p1, .inr (4, [.ref q_p1_numbers, .ref q_p1_needCounts, .ref q_p1_needed, .ref q_p1_conditions, .ref q_p1_allNeeded, .int v_p1_jobs]))], [(q_p1_allNeeded, .inl (cI, 27, .inl f_p1_allNeeded))]] H locs := hw
              refine bq_t (lv_if_eq (tgt := 56) hx hb d_Rin_findFirst_42 (by decide)) hm (fun hm => ?_) (fun hm => ?_)
              · refine lv_iinc (v := x2 + 1) (lv' := [(4, .int (x2 + 1)), (5, .int x4), (3, .int x1), (0, .ref q_p0), (1, .ref q_p1), (2, .ref q_p2)]) hx hb d_Rin_findFirst_56 hl (k := 1) rfl rfl (by decide) rfl (fun ls hl => ?_)
                refine lv_goto (tgt := 13) hx hb d_Rin_findFirst_59 (by decide) ?_
                exact ih13 (x2 + 1) hm _ _ _ (hw.sub [0, 1, 2, 8, 3, 4, 5, 9, 6, 7] (by decide) rfl) (lv_sub hl [0, 2, 3, 4, 5] rfl)
              · refine lv_aload_n hx hb d_Rin_findFirst_45 rfl (lv_at hl 3 rfl) ?_
                refine lv_aload_n hx hb d_Rin_findFirst_46 rfl (lv_at hl 4 rfl) ?_
                refine lv_iload hx hb d_Rin_findFirst_47 (lv_at hl 0 rfl) ?_
                refine lv_iload_n hx hb d_Rin_findFirst_49 rfl (lv_at hl 2 rfl) ?_
                refine lv_aload_n hx hb d_Rin_findFirst_50 rfl (lv_at hl 5 rfl) ?_
                obtain ⟨o6, h6, hm⟩ := zc_x hm
                refine sg_cv0 (Sr := [[(q_p1_allNeeded, .inl (cI, 27, .inl f_p1_allNeeded))]]) (va_runV (As := [.ref q_p1, .int x4, .int x1, .ref q_p2]) (rest := []) ⟨hx, hb, hml, hown, hts⟩ (ct_Rin_find l dC dI cI cL cM cZ q_p0 q_p1 q_p2 q_p0_queue q_p0_before q_p1_numbers q_p1_needCounts q_p1_needed q_p1_conditions q_p1_allNeeded q_p2_row d_p1_needed f_p0_queue f_p0_before v_p1_jobs f_p1_needCounts g_p1_needed v_p2_length f_p2_row x4 x1 N o6 h6 _) (cwV 4 hts (gd_V wd_330 wd_331 wd_332 wd_7 wd_333) rfl rfl rfl (by decide +kernel) ⟨Nat.le_of_ble_eq_true rfl, Nat.le_of_ble_eq_true rfl⟩) (sg_preV (ci := 6) (q0 := 0) hK hNW hw [0, 1, 2, 8, 3, 4, 5, 6, 7] rfl rfl rfl rfl) rfl rfl hl.1 rfl (lv_room (Nat.le_of_ble_eq_true rfl)) d_Rin_findFirst_51 ⟨Nat.le_of_ble_eq_true rfl, Nat.le_of_ble_eq_true rfl⟩) hw hA [0, 1, 2, 8, 3, 4, 5, 6, 7] [9] rfl rfl rfl (by decide) (fun H locs hw => ?_)
                have hw : wk (dC, dI) vwCl A s.heap [[(q_p1_allNeeded, .inl (cI, 27, .inl f_p1_allNeeded))], [(q_p0, .inr (6, [.ref q_p0_queue, .ref q_p0_before]))], [(q_p0_queue, .inl (cI, 26, .inl o6.1))], [(q_p0_before, .inl (cI, 27, .inl o6.2.1))], [(q_p1, .inr (4, [.ref q_p1_numbers, .ref q_p1_needCounts, .ref q_p1_needed, .ref q_p1_conditions, .ref q_p1_allNeeded, .int v_p1_jobs]))], [(q_p1_needCounts, .inl (cI, 27, .inl f_p1_needCounts))], [(q_p1_needed, .inl (cM, gro 27 d_p1_needed))], gl cI d_p1_needed 27 20 g_p1_needed, [(q_p2, .inr (8, [.ref q_p2_row, .int o6.2.2.1]))], [(q_p2_row, .inl (cI, 26, .inl o6.2.2.2))]] H locs := hw
                refine lv_iconst (v := 1) hx hb d_Rin_findFirst_54 (by decide) ?_
                obtain rfl := Option.some.inj hm
                exact sg_zret hx hb hr rfl hlocks hAe hQ hK (hw.sub [1, 2, 3, 4, 5, 6, 7, 0, 8, 9] (by decide) rfl) d_Rin_findFirst_55
        exact L13 _ _ hm _ _ _ hw hl
  exact L2 _ _ hm _ _ _ hw hl
theorem d_Tex_parseNeeds_0 : decode prog_8_method_8_code 0 = .ok (.iconst 0, 1) := by decide +kernel
theorem d_Tex_parseNeeds_1 : decode prog_8_method_8_code 1 = .ok (.istore_n 2, 1) := by decide +kernel
theorem d_Tex_parseNeeds_2 : decode prog_8_method_8_code 2 = .ok (.iload_n 2, 1) := by decide +kernel
theorem d_Tex_parseNeeds_3 : decode prog_8_method_8_code 3 = .ok (.bipush 20, 2) := by decide +kernel
theorem d_Tex_parseNeeds_5 : decode prog_8_method_8_code 5 = .ok (.if_icmp .gt 71, 3) := by decide +kernel
theorem d_Tex_parseNeeds_8 : decode prog_8_method_8_code 8 = .ok (.aload_n 0, 1) := by decide +kernel
theorem d_Tex_parseNeeds_9 : decode prog_8_method_8_code 9 = .ok (.invokevirtual 51, 3) := by decide +kernel
theorem d_Tex_parseNeeds_12 : decode prog_8_method_8_code 12 = .ok (.aload_n 0, 1) := by decide +kernel
theorem d_Tex_parseNeeds_13 : decode prog_8_method_8_code 13 = .ok (.bipush 59, 2) := by decide +kernel
theorem d_Tex_parseNeeds_15 : decode prog_8_method_8_code 15 = .ok (.invokevirtual 81, 3) := by decide +kernel
theorem d_Tex_parseNeeds_18 : decode prog_8_method_8_code 18 = .ok (.ifCond .eq 15, 3) := by decide +kernel
theorem d_Tex_parseNeeds_21 : decode prog_8_method_8_code 21 = .ok (.aload_n 0, 1) := by decide +kernel
theorem d_Tex_parseNeeds_22 : decode prog_8_method_8_code 22 = .ok (.dup, 1) := by decide +kernel
theorem d_Tex_parseNeeds_23 : decode prog_8_method_8_code 23 = .ok (.getfield 34, 3) := by decide +kernel
theorem d_Tex_parseNeeds_26 : decode prog_8_method_8_code 26 = .ok (.iconst 1, 1) := by decide +kernel
theorem d_Tex_parseNeeds_27 : decode prog_8_method_8_code 27 = .ok (.iadd, 1) := by decide +kernel
theorem d_Tex_parseNeeds_28 : decode prog_8_method_8_code 28 = .ok (.putfield 34, 3) := by decide +kernel
theorem d_Tex_parseNeeds_31 : decode prog_8_method_8_code 31 = .ok (.iconst 1, 1) := by decide +kernel
theorem d_Tex_parseNeeds_32 : decode prog_8_method_8_code 32 = .ok (.ireturn, 1) := by decide +kernel
theorem d_Tex_parseNeeds_33 : decode prog_8_method_8_code 33 = .ok (.aload_n 0, 1) := by decide +kernel
theorem d_Tex_parseNeeds_34 : decode prog_8_method_8_code 34 = .ok (.bipush 45, 2) := by decide +kernel
theorem d_Tex_parseNeeds_36 : decode prog_8_method_8_code 36 = .ok (.invokevirtual 81, 3) := by decide +kernel
theorem d_Tex_parseNeeds_39 : decode prog_8_method_8_code 39 = .ok (.ifCond .eq 9, 3) := by decide +kernel
theorem d_Tex_parseNeeds_42 : decode prog_8_method_8_code 42 = .ok (.iload_n 2, 1) := by decide +kernel
theorem d_Tex_parseNeeds_43 : decode prog_8_method_8_code 43 = .ok (.bipush 20, 2) := by decide +kernel
theorem d_Tex_parseNeeds_45 : decode prog_8_method_8_code 45 = .ok (.if_icmp .ne 5, 3) := by decide +kernel
theorem d_Tex_parseNeeds_48 : decode prog_8_method_8_code 48 = .ok (.iconst 0, 1) := by decide +kernel
theorem d_Tex_parseNeeds_49 : decode prog_8_method_8_code 49 = .ok (.ireturn, 1) := by decide +kernel
theorem d_Tex_parseNeeds_50 : decode prog_8_method_8_code 50 = .ok (.aload_n 0, 1) := by decide +kernel
theorem d_Tex_parseNeeds_51 : decode prog_8_method_8_code 51 = .ok (.dup, 1) := by decide +kernel
theorem d_Tex_parseNeeds_52 : decode prog_8_method_8_code 52 = .ok (.getfield 34, 3) := by decide +kernel
theorem d_Tex_parseNeeds_55 : decode prog_8_method_8_code 55 = .ok (.iconst 1, 1) := by decide +kernel
theorem d_Tex_parseNeeds_56 : decode prog_8_method_8_code 56 = .ok (.iadd, 1) := by decide +kernel
theorem d_Tex_parseNeeds_57 : decode prog_8_method_8_code 57 = .ok (.putfield 34, 3) := by decide +kernel
theorem d_Tex_parseNeeds_60 : decode prog_8_method_8_code 60 = .ok (.aload_n 0, 1) := by decide +kernel
theorem d_Tex_parseNeeds_61 : decode prog_8_method_8_code 61 = .ok (.iload_n 1, 1) := by decide +kernel
theorem d_Tex_parseNeeds_62 : decode prog_8_method_8_code 62 = .ok (.invokevirtual 84, 3) := by decide +kernel
theorem d_Tex_parseNeeds_65 : decode prog_8_method_8_code 65 = .ok (.ifCond .ne 5, 3) := by decide +kernel
theorem d_Tex_parseNeeds_68 : decode prog_8_method_8_code 68 = .ok (.iconst 0, 1) := by decide +kernel
theorem d_Tex_parseNeeds_69 : decode prog_8_method_8_code 69 = .ok (.ireturn, 1) := by decide +kernel
theorem d_Tex_parseNeeds_70 : decode prog_8_method_8_code 70 = .ok (.iinc 2 1, 3) := by decide +kernel
theorem d_Tex_parseNeeds_73 : decode prog_8_method_8_code 73 = .ok (.goto (-71), 3) := by decide +kernel
theorem d_Tex_parseNeeds_76 : decode prog_8_method_8_code 76 = .ok (.iconst 0, 1) := by decide +kernel
theorem d_Tex_parseNeeds_77 : decode prog_8_method_8_code 77 = .ok (.ireturn, 1) := by decide +kernel
def md_Tex_parseNeeds_F2 (v_p0_length : Int32) (f_p0_text : Nat → Int32) (a1_x : Int32) (N : Nat) (rec2 : Int32 → Int32 → Int32 → (Nat → Int32) → (Nat → Int32) → (Nat → Int32) → Option (Int32 × Int32 × Int32 × (Nat → Int32) × (Nat → Int32) × (Nat → Int32))) (x1 : Int32) (x2 : Int32) (x3 : Int32) (f4 : Nat → Int32) (f5 : Nat → Int32) (f6 : Nat → Int32) : Option (Int32 × Int32 × Int32 × (Nat → Int32) × (Nat → Int32) × (Nat → Int32)) :=
  (if (20 : Int32) < x1 then (some ((0 : Int32), x2, x3, f4, f5, f6)) else (zc (md_Tex_skipBlanks N v_p0_length x3 f_p0_text) (fun o7 => (zc (md_Tex_isHere N v_p0_length o7 f_p0_text (59 : Int32)) (fun o8 => (if o8 = 0 then (zc (md_Tex_isHere N v_p0_length o7 f_p0_text (45 : Int32)) (fun o9 => (if o9 = 0 then (some ((0 : Int32), x2, o7, f4, f5, f6)) else (if x1 = (20 : Int32) then (some ((0 : Int32), x2, o7, f4, f5, f6)) else (zc (md_Tex_parseNeed N x2 v_p0_length (o7 + (1 : Int32)) f_p0_text f4 f5 f6 a1_x) (fun o10 => (if o10.1 = 0 then (some ((0 : Int32), o10.2.1, o10.2.2.1, o10.2.2.2.1, o10.2.2.2.2.1, o10.2.2.2.2.2)) else (rec2 (x1 + 1) o10.2.1 o10.2.2.1 o10.2.2.2.1 o10.2.2.2.2.1 o10.2.2.2.2.2)))))))) else (some ((1 : Int32), x2, o7 + (1 : Int32), f4, f5, f6))))))))
def md_Tex_parseNeeds (N : Nat) (v_p0_pending : Int32) (v_p0_length : Int32) (v_p0_at : Int32) (f_p0_text : Nat → Int32) (f_p0_owners : Nat → Int32) (f_p0_namePlaces : Nat → Int32) (f_p0_conditions : Nat → Int32) (a1_x : Int32) : Option (Int32 × Int32 × Int32 × (Nat → Int32) × (Nat → Int32) × (Nat → Int32)) :=
  (fx6 (md_Tex_parseNeeds_F2 v_p0_length f_p0_text a1_x N) N (0 : Int32) v_p0_pending v_p0_at f_p0_owners f_p0_namePlaces f_p0_conditions)
abbrev sc_Tex_parseNeeds (cI cL cM cZ : ClassId) (q_p0 q_p0_text q_p0_jobOfLetter q_p0_owners q_p0_namePlaces q_p0_conditions : Nat) (v_p0_pending : Int32) (v_p0_length : Int32) (v_p0_at : Int32) (v_p0_number : Int32) (f_p0_text : Nat → Int32) (f_p0_owners : Nat → Int32) (f_p0_namePlaces : Nat → Int32) (f_p0_conditions : Nat → Int32) : List va_W := [[(q_p0, .inr (7, [.ref q_p0_text, .ref q_p0_jobOfLetter, .ref q_p0_owners, .ref q_p0_namePlaces, .ref q_p0_conditions, .int v_p0_pending, .int v_p0_length, .int v_p0_at, .int v_p0_number]))], [(q_p0_text, .inl (cI, 2000, .inl f_p0_text))], [(q_p0_owners, .inl (cI, 520, .inl f_p0_owners))], [(q_p0_namePlaces, .inl (cI, 520, .inl f_p0_namePlaces))], [(q_p0_conditions, .inl (cI, 520, .inl f_p0_conditions))]]
abbrev rm_Tex_parseNeeds : Room := { frames := 2, cells := 0, slots := 0, locals := 42 }
set_option maxHeartbeats 4000000 in
set_option maxRecDepth 100000 in
theorem ct_Tex_parseNeeds (l : Launch) (dC : Nat → ClassId) (dI : Nat → Nat → Nat) (cI cL cM cZ : ClassId) (q_p0 q_p0_text q_p0_jobOfLetter q_p0_owners q_p0_namePlaces q_p0_conditions : Nat) (v_p0_pending : Int32) (v_p0_length : Int32) (v_p0_at : Int32) (v_p0_number : Int32) (f_p0_text : Nat → Int32) (f_p0_owners : Nat → Int32) (f_p0_namePlaces : Nat → Int32) (f_p0_conditions : Nat → Int32) (a1_x : Int32) (N : Nat) (o : Int32 × Int32 × Int32 × (Nat → Int32) × (Nat → Int32) × (Nat → Int32)) (hm : md_Tex_parseNeeds N v_p0_pending v_p0_length v_p0_at f_p0_text f_p0_owners f_p0_namePlaces f_p0_conditions a1_x = some o) : ∀ sz : Nat, Met l y_Tex_parseNeeds ws_Tex_parseNeeds rm_Tex_parseNeeds (cP (dC, dI) vwCl [(cI, .int), (cL, .long), (cM, .array .int), (cZ, .boolean)] [.ref q_p0, .int a1_x] sz (sc_Tex_parseNeeds cI cL cM cZ q_p0 q_p0_text q_p0_jobOfLetter q_p0_owners q_p0_namePlaces q_p0_conditions v_p0_pending v_p0_length v_p0_at v_p0_number f_p0_text f_p0_owners f_p0_namePlaces f_p0_conditions)) (cQi (dC, dI) vwCl [(cI, .int), (cL, .long), (cM, .array .int), (cZ, .boolean)] sz (sc_Tex_parseNeeds cI cL cM cZ q_p0 q_p0_text q_p0_jobOfLetter q_p0_owners q_p0_namePlaces q_p0_conditions v_p0_pending v_p0_length v_p0_at v_p0_number f_p0_text f_p0_owners f_p0_namePlaces f_p0_conditions) o.1 (sc_Tex_parseNeeds cI cL cM cZ q_p0 q_p0_text q_p0_jobOfLetter q_p0_owners q_p0_namePlaces q_p0_conditions o.2.1 v_p0_length o.2.2.1 v_p0_number f_p0_text o.2.2.2.1 o.2.2.2.2.1 o.2.2.2.2.2)) 0 0 (va_A ((sc_Tex_parseNeeds cI cL cM cZ q_p0 q_p0_text q_p0_jobOfLetter q_p0_owners q_p0_namePlaces q_p0_conditions v_p0_pending v_p0_length v_p0_at v_p0_number f_p0_text f_p0_owners f_p0_namePlaces f_p0_conditions)).flatten sz) := by
  refine sg_met (fun sz => cQi (dC, dI) vwCl [(cI, .int), (cL, .long), (cM, .array .int), (cZ, .boolean)] sz (sc_Tex_parseNeeds cI cL cM cZ q_p0 q_p0_text q_p0_jobOfLetter q_p0_owners q_p0_namePlaces q_p0_conditions v_p0_pending v_p0_length v_p0_at v_p0_number f_p0_text f_p0_owners f_p0_namePlaces f_p0_conditions) o.1 (sc_Tex_parseNeeds cI cL cM cZ q_p0 q_p0_text q_p0_jobOfLetter q_p0_owners q_p0_namePlaces q_p0_conditions o.2.1 v_p0_length o.2.2.1 v_p0_number f_p0_text o.2.2.2.1 o.2.2.2.2.1 o.2.2.2.2.2)) (by decide) (Nat.le_of_ble_eq_true rfl) ?_
  intro p e s m args below meth c A Q ls hx hb hr hts hown hlocks hml hname hK hNW hA hAe hQ hw hl
  have hl : lv_has ls 3 [(0, .ref q_p0), (1, .int a1_x)] := hl
  have hw : wk (dC, dI) vwCl A s.heap [[(q_p0, .inr (7, [.ref q_p0_text, .ref q_p0_jobOfLetter, .ref q_p0_owners, .ref q_p0_namePlaces, .ref q_p0_conditions, .int v_p0_pending, .int v_p0_length, .int v_p0_at, .int v_p0_number]))], [(q_p0_text, .inl (cI, 2000, .inl f_p0_text))], [(q_p0_owners, .inl (cI, 520, .inl f_p0_owners))], [(q_p0_namePlaces, .inl (cI, 520, .inl f_p0_namePlaces))], [(q_p0_conditions, .inl (cI, 520, .inl f_p0_conditions))]] s.heap [] := hw
  unfold md_Tex_parseNeeds at hm
  refine lv_iconst (v := 0) hx hb d_Tex_parseNeeds_0 (by decide) ?_
  refine lv_istore_n (lv' := [(2, .int (0 : Int32)), (0, .ref q_p0), (1, .int a1_x)]) hx hb d_Tex_parseNeeds_1 rfl hl (by decide) rfl (fun ls hl => ?_)
  obtain ⟨Fn2, hFn2, hm⟩ := fx6_x hm
  have L2 : ∀ (n : Nat) (x1 : Int32) (x2 : Int32) (x3 : Int32) (f4 : Nat → Int32) (f5 : Nat → Int32) (f6 : Nat → Int32), fx6 Fn2 n x1 x2 x3 f4 f5 f6 = some o → ∀ (H : Heap) (locs : List Loc) (ls : Array Slot), wk (dC, dI) vwCl A s.heap [[(q_p0, .inr (7, [.ref q_p0_text, .ref q_p0_jobOfLetter, .ref q_p0_owners, .ref q_p0_namePlaces, .ref q_p0_conditions, .int x2, .int v_p0_length, .int x3, .int v_p0_number]))], [(q_p0_text, .inl (cI, 2000, .inl f_p0_text))], [(q_p0_owners, .inl (cI, 520, .inl f4))], [(q_p0_namePlaces, .inl (cI, 520, .inl f5))], [(q_p0_conditions, .inl (cI, 520, .inl f6))]] H locs → lv_has ls 3 [(2, .int x1), (0, .ref q_p0), (1, .int a1_x)] → W p l e rm_Tex_parseNeeds s m args below meth c H locs 0 0 Q (F0 m 2 ls []) := by
    intro n
    induction n with
    | zero => intro x1 x2 x3 f4 f5 f6 hm; exact (fx6_0 hm).elim
    | succ n ih2 =>
      intro x1 x2 x3 f4 f5 f6 hm H locs ls hw hl
      have hm := fx6_s hFn2 hm
      unfold md_Tex_parseNeeds_F2 at hm
      refine lv_iload_n hx hb d_Tex_parseNeeds_2 rfl (lv_at hl 0 rfl) ?_
      refine lv_bipush (v := 20) hx hb d_Tex_parseNeeds_3 (by decide) ?_
      refine bq_t (lv_icmp_gt (tgt := 76) hx hb d_Tex_parseNeeds_5 (by decide)) hm (fun hm => ?_) (fun hm => ?_)
      · refine lv_iconst (v := 0) hx hb d_Tex_parseNeeds_76 (by decide) ?_
        obtain rfl := Option.some.inj hm
        exact sg_zret hx hb hr rfl hlocks hAe hQ hK hw d_Tex_parseNeeds_77
      · refine lv_aload_n hx hb d_Tex_parseNeeds_8 rfl (lv_at hl 1 rfl) ?_
        obtain ⟨o7, h7, hm⟩ := zc_x hm
        refine sg_cv0 (Sr := [[(q_p0_owners, .inl (cI, 520, .inl f4))], [(q_p0_namePlaces, .inl (cI, 520, .inl f5))], [(q_p0_conditions, .inl (cI, 520, .inl f6))]]) (va_runV (As := []) (rest := []) ⟨hx, hb, hml, hown, hts⟩ (ct_Tex_skipBlanks l dC dI cI cL cM cZ q_p0 q_p0_text q_p0_jobOfLetter q_p0_owners q_p0_namePlaces q_p0_conditions x2 v_p0_length x3 v_p0_number f_p0_text N o7 h7 _) (cwV 0 hts (gd_V wd_274 wd_276 ws_0 wd_3 wd_277) rfl rfl rfl (by decide +kernel) ⟨Nat.le_of_ble_eq_true rfl, Nat.le_of_ble_eq_true rfl⟩) (sg_preV (ci := 7) (q0 := 0) hK hNW hw [0, 1] rfl rfl rfl rfl) rfl rfl hl.1 rfl (lv_room (Nat.le_of_ble_eq_true rfl)) d_Tex_parseNeeds_9 ⟨Nat.le_of_ble_eq_true rfl, Nat.le_of_ble_eq_true rfl⟩) hw hA [0, 1] [2, 3, 4] rfl rfl rfl (by decide) (fun H locs hw => ?_)
        have hw : wk (dC, dI) vwCl A s.heap [[(q_p0_owners, .inl (cI, 520, .inl f4))], [(q_p0_namePlaces, .inl (cI, 520, .inl f5))], [(q_p0_conditions, .inl (cI, 520, .inl f6))], [(q_p0, .inr (7, [.ref q_p0_text, .ref q_p0_jobOfLetter, .ref q_p0_owners, .ref q_p0_namePlaces, .ref q_p0_conditions, .int x2, .int v_p0_length, .int o7, .int v_p0_number]))], [(q_p0_text, .inl (cI, 2000, .inl f_p0_text))]] H locs := hw
        refine lv_aload_n hx hb d_Tex_parseNeeds_12 rfl (lv_at hl 1 rfl) ?_
        refine lv_bipush (v := 59) hx hb d_Tex_parseNeeds_13 (by decide) ?_
        obtain ⟨o8, h8, hm⟩ := zc_x hm
        refine sg_ci0 (Sr := [[(q_p0_owners, .inl (cI, 520, .inl f4))], [(q_p0_namePlaces, .inl (cI, 520, .inl f5))], [(q_p0_conditions, .inl (cI, 520, .inl f6))]]) (va_runV (As := [.int (59 : Int32)]) (rest := []) ⟨hx, hb, hml, hown, hts⟩ (ct_Tex_isHere l dC dI cI cL cM cZ q_p0 q_p0_text q_p0_jobOfLetter q_p0_owners q_p0_namePlaces q_p0_conditions x2 v_p0_length o7 v_p0_number f_p0_text (59 : Int32) N o8 h8 _) (cwV 1 hts (gd_V wd_294 wd_296 ws_5 wd_3 wd_297) rfl rfl rfl (by decide +kernel) ⟨Nat.le_of_ble_eq_true rfl, Nat.le_of_ble_eq_true rfl⟩) (sg_preV (ci := 7) (q0 := 3) hK hNW hw [3, 4] rfl rfl rfl rfl) rfl rfl hl.1 rfl (lv_room (Nat.le_of_ble_eq_true rfl)) d_Tex_parseNeeds_15 ⟨Nat.le_of_ble_eq_true rfl, Nat.le_of_ble_eq_true rfl⟩) hw hA [3, 4] [0, 1, 2] rfl rfl rfl (by decide) (fun H locs hw => ?_)
        have hw : wk (dC, dI) vwCl A s.heap [[(q_p0_owners, .inl (cI, 520, .inl f4))], [(q_p0_namePlaces, .inl (cI, 520, .inl f5))], [(q_p0_conditions, .inl (cI, 520, .inl f6))], [(q_p0, .inr (7, [.ref q_p0_text, .ref q_p0_jobOfLetter, .ref q_p0_owners, .ref q_p0_namePlaces, .ref q_p0_conditions, .int x2, .int v_p0_length, .int o7, .int v_p0_number]))], [(q_p0_text, .inl (cI, 2000, .inl f_p0_text))]] H locs := hw
        refine bq_t (lv_if_eq (tgt := 33) hx hb d_Tex_parseNeeds_18 (by decide)) hm (fun hm => ?_) (fun hm => ?_)
        · refine lv_aload_n hx hb d_Tex_parseNeeds_33 rfl (lv_at hl 1 rfl) ?_
          refine lv_bipush (v := 45) hx hb d_Tex_parseNeeds_34 (by decide) ?_
          obtain ⟨o9, h9, hm⟩ := zc_x hm
          refine sg_ci0 (Sr := [[(q_p0_owners, .inl (cI, 520, .inl f4))], [(q_p0_namePlaces, .inl (cI, 520, .inl f5))], [(q_p0_conditions, .inl (cI, 520, .inl f6))]]) (va_runV (As := [.int (45 : Int32)]) (rest := []) ⟨hx, hb, hml, hown, hts⟩ (ct_Tex_isHere l dC dI cI cL cM cZ q_p0 q_p0_text q_p0_jobOfLetter q_p0_owners q_p0_namePlaces q_p0_conditions x2 v_p0_length o7 v_p0_number f_p0_text (45 : Int32) N o9 h9 _) (cwV 1 hts (gd_V wd_294 wd_296 ws_5 wd_3 wd_297) rfl rfl rfl (by decide +kernel) ⟨Nat.le_of_ble_eq_true rfl, Nat.le_of_ble_eq_true rfl⟩) (sg_preV (ci := 7) (q0 := 3) hK hNW hw [3, 4] rfl rfl rfl rfl) rfl rfl hl.1 rfl (lv_room (Nat.le_of_ble_eq_true rfl)) d_Tex_parseNeeds_36 ⟨Nat.le_of_ble_eq_true rfl, Nat.le_of_ble_eq_true rfl⟩) hw hA [3, 4] [0, 1, 2] rfl rfl rfl (by decide) (fun H locs hw => ?_)
          have hw : wk (dC, dI) vwCl A s.heap [[(q_p0_owners, .inl (cI, 520, .inl f4))], [(q_p0_namePlaces, .inl (cI, 520, .inl f5))], [(q_p0_conditions, .inl (cI, 520, .inl f6))], [(q_p0, .inr (7, [.ref q_p0_text, .ref q_p0_jobOfLetter, .ref q_p0_owners, .ref q_p0_namePlaces, .ref q_p0_conditions, .int x2, .int v_p0_length, .int o7, .int v_p0_number]))], [(q_p0_text, .inl (cI, 2000, .inl f_p0_text))]] H locs := hw
          refine bq_t (lv_if_eq (tgt := 48) hx hb d_Tex_parseNeeds_39 (by decide)) hm (fun hm => ?_) (fun hm => ?_)
          · refine lv_iconst (v := 0) hx hb d_Tex_parseNeeds_48 (by decide) ?_
            obtain rfl := Option.some.inj hm
            exact sg_zret hx hb hr rfl hlocks hAe hQ hK (hw.sub [3, 4, 0, 1, 2] (by decide) rfl) d_Tex_parseNeeds_49
          · refine lv_iload_n hx hb d_Tex_parseNeeds_42 rfl (lv_at hl 0 rfl) ?_
            refine lv_bipush (v := 20) hx hb d_Tex_parseNeeds_43 (by decide) ?_
            refine bq_n (lv_icmp_ne (tgt := 50) hx hb d_Tex_parseNeeds_45 (by decide)) hm (fun hm => ?_) (fun hm => ?_)
            · refine lv_aload_n hx hb d_Tex_parseNeeds_50 rfl (lv_at hl 1 rfl) ?_
              refine lv_dup hx hb d_Tex_parseNeeds_51 rfl ?_
              refine sg_get (D := (dC, dI)) (ci := 7) (v := .int o7) (C := "JobNets$TextReader") (T := T_7) (N := 9) hx hb hts hin_7 hown hK hw 3 rfl rfl 7 (by decide) (hts _ wd_63) rfl rfl d_Tex_parseNeeds_52 ?_
              refine lv_iconst (v := 1) hx hb d_Tex_parseNeeds_55 (by decide) ?_
              refine lv_iadd hx hb d_Tex_parseNeeds_56 ?_
              refine sg_put (D := (dC, dI)) (ci := 7) (v := .int (o7 + (1 : Int32))) (ty := .int) (C := "JobNets$TextReader") (T := T_7) (N := 9) (S1 := [[(q_p0_owners, .inl (cI, 520, .inl f4))], [(q_p0_namePlaces, .inl (cI, 520, .inl f5))], [(q_p0_conditions, .inl (cI, 520, .inl f6))], [(q_p0, .inr (7, [.ref q_p0_text, .ref q_p0_jobOfLetter, .ref q_p0_owners, .ref q_p0_namePlaces, .ref q_p0_conditions, .int x2, .int v_p0_length, .int (o7 + (1 : Int32)), .int v_p0_number]))], [(q_p0_text, .inl (cI, 2000, .inl f_p0_text))]]) hx hb hts hin_7 ty_7 tok_7 nd_7 hown hK hw 3 rfl rfl 7 (by decide) (hts _ wd_63) rfl rfl (by decide +kernel) rfl rfl (Nat.le_of_ble_eq_true rfl) rfl d_Tex_parseNeeds_57 (fun H locs hw => ?_)
              refine lv_aload_n hx hb d_Tex_parseNeeds_60 rfl (lv_at hl 1 rfl) ?_
              refine lv_iload_n hx hb d_Tex_parseNeeds_61 rfl (lv_at hl 2 rfl) ?_
              obtain ⟨o10, h10, hm⟩ := zc_x hm
              refine sg_ci0 (Sr := []) (va_runV (As := [.int a1_x]) (rest := []) ⟨hx, hb, hml, hown, hts⟩ (ct_Tex_parseNeed l dC dI cI cL cM cZ q_p0 q_p0_text q_p0_jobOfLetter q_p0_owners q_p0_namePlaces q_p0_conditions x2 v_p0_length (o7 + (1 : Int32)) v_p0_number f_p0_text f4 f5 f6 a1_x N o10 h10 _) (cwV 1 hts (gd_V wd_298 wd_300 ws_6 wd_3 wd_301) rfl rfl rfl (by decide +kernel) ⟨Nat.le_of_ble_eq_true rfl, Nat.le_of_ble_eq_true rfl⟩) (sg_preV (ci := 7) (q0 := 3) hK hNW hw [3, 4, 0, 1, 2] rfl rfl rfl rfl) rfl rfl hl.1 rfl (lv_room (Nat.le_of_ble_eq_true rfl)) d_Tex_parseNeeds_62 ⟨Nat.le_of_ble_eq_true rfl, Nat.le_of_ble_eq_true rfl⟩) hw hA [3, 4, 0, 1, 2] [] rfl rfl rfl (by decide) (fun H locs hw => ?_)
              have hw : wk (dC, dI) vwCl A s.heap [[(q_p0, .inr (7, [.ref q_p0_text, .ref q_p0_jobOfLetter, .ref q_p0_owners, .ref q_p0_namePlaces, .ref q_p0_conditions, .int o10.2.1, .int v_p0_length, .int o10.2.2.1, .int v_p0_number]))], [(q_p0_text, .inl (cI, 2000, .inl f_p0_text))], [(q_p0_owners, .inl (cI, 520, .inl o10.2.2.2.1))], [(q_p0_namePlaces, .inl (cI, 520, .inl o10.2.2.2.2.1))], [(q_p0_conditions, .inl (cI, 520, .inl o10.2.2.2.2.2))]] H locs := hw
              refine bq_n (lv_if_ne (tgt := 70) hx hb d_Tex_parseNeeds_65 (by decide)) hm (fun hm => ?_) (fun hm => ?_)
              · refine lv_iinc (v := x1 + 1) (lv' := [(2, .int (x1 + 1)), (0, .ref q_p0), (1, .int a1_x)]) hx hb d_Tex_parseNeeds_70 hl (k := 0) rfl rfl (by decide) rfl (fun ls hl => ?_)
                refine lv_goto (tgt := 2) hx hb d_Tex_parseNeeds_73 (by decide) ?_
                exact ih2 (x1 + 1) o10.2.1 o10.2.2.1 o10.2.2.2.1 o10.2.2.2.2.1 o10.2.2.2.2.2 hm _ _ _ hw hl
              · refine lv_iconst (v := 0) hx hb d_Tex_parseNeeds_68 (by decide) ?_
                obtain rfl := Option.some.inj hm
                exact sg_zret hx hb hr rfl hlocks hAe hQ hK hw d_Tex_parseNeeds_69
            · refine lv_iconst (v := 0) hx hb d_Tex_parseNeeds_48 (by decide) ?_
              obtain rfl := Option.some.inj hm
              exact sg_zret hx hb hr rfl hlocks hAe hQ hK (hw.sub [3, 4, 0, 1, 2] (by decide) rfl) d_Tex_parseNeeds_49
        · refine lv_aload_n hx hb d_Tex_parseNeeds_21 rfl (lv_at hl 1 rfl) ?_
          refine lv_dup hx hb d_Tex_parseNeeds_22 rfl ?_
          refine sg_get (D := (dC, dI)) (ci := 7) (v := .int o7) (C := "JobNets$TextReader") (T := T_7) (N := 9) hx hb hts hin_7 hown hK hw 3 rfl rfl 7 (by decide) (hts _ wd_63) rfl rfl d_Tex_parseNeeds_23 ?_
          refine lv_iconst (v := 1) hx hb d_Tex_parseNeeds_26 (by decide) ?_
          refine lv_iadd hx hb d_Tex_parseNeeds_27 ?_
          refine sg_put (D := (dC, dI)) (ci := 7) (v := .int (o7 + (1 : Int32))) (ty := .int) (C := "JobNets$TextReader") (T := T_7) (N := 9) (S1 := [[(q_p0_owners, .inl (cI, 520, .inl f4))], [(q_p0_namePlaces, .inl (cI, 520, .inl f5))], [(q_p0_conditions, .inl (cI, 520, .inl f6))], [(q_p0, .inr (7, [.ref q_p0_text, .ref q_p0_jobOfLetter, .ref q_p0_owners, .ref q_p0_namePlaces, .ref q_p0_conditions, .int x2, .int v_p0_length, .int (o7 + (1 : Int32)), .int v_p0_number]))], [(q_p0_text, .inl (cI, 2000, .inl f_p0_text))]]) hx hb hts hin_7 ty_7 tok_7 nd_7 hown hK hw 3 rfl rfl 7 (by decide) (hts _ wd_63) rfl rfl (by decide +kernel) rfl rfl (Nat.le_of_ble_eq_true rfl) rfl d_Tex_parseNeeds_28 (fun H locs hw => ?_)
          refine lv_iconst (v := 1) hx hb d_Tex_parseNeeds_31 (by decide) ?_
          obtain rfl := Option.some.inj hm
          exact sg_zret hx hb hr rfl hlocks hAe hQ hK (hw.sub [3, 4, 0, 1, 2] (by decide) rfl) d_Tex_parseNeeds_32
  exact L2 _ _ _ _ _ _ _ hm _ _ _ hw hl
theorem d_A_next_0 : decode prog_1_method_7_code 0 = .ok (.lload_n 2, 1) := by decide +kernel
theorem d_A_next_1 : decode prog_1_method_7_code 1 = .ok (.invokestatic 99, 3) := by decide +kernel
theorem d_A_next_4 : decode prog_1_method_7_code 4 = .ok (.ifCond .ne 7, 3) := by decide +kernel
theorem d_A_next_7 : decode prog_1_method_7_code 7 = .ok (.ldc2_w 127, 3) := by decide +kernel
theorem d_A_next_10 : decode prog_1_method_7_code 10 = .ok (.lreturn, 1) := by decide +kernel
theorem d_A_next_11 : decode prog_1_method_7_code 11 = .ok (.aload_n 0, 1) := by decide +kernel
theorem d_A_next_12 : decode prog_1_method_7_code 12 = .ok (.getfield 12, 3) := by decide +kernel
theorem d_A_next_15 : decode prog_1_method_7_code 15 = .ok (.iload_n 1, 1) := by decide +kernel
theorem d_A_next_16 : decode prog_1_method_7_code 16 = .ok (.lload_n 2, 1) := by decide +kernel
theorem d_A_next_17 : decode prog_1_method_7_code 17 = .ok (.l2i, 1) := by decide +kernel
theorem d_A_next_18 : decode prog_1_method_7_code 18 = .ok (.invokevirtual 129, 3) := by decide +kernel
theorem d_A_next_21 : decode prog_1_method_7_code 21 = .ok (.i2l, 1) := by decide +kernel
theorem d_A_next_22 : decode prog_1_method_7_code 22 = .ok (.lreturn, 1) := by decide +kernel
def md_A_next (N : Nat) (v_p0_calendars_made : Int32) (v_p0_calendars_holidayCount : Int32) (f_p0_calendars_rules : Nat → Int32) (f_p0_calendars_places : Nat → Int32) (f_p0_calendars_holidays : Nat → Int32) (a1_x : Int32) (a2_x : Int64) : Option (Int64) :=
  (zc (md_A_isDay N a2_x) (fun o1 => (if o1 = 0 then (some (-1 : Int64)) else (zc (md_Cal_firstDay N v_p0_calendars_made v_p0_calendars_holidayCount f_p0_calendars_rules f_p0_calendars_places f_p0_calendars_holidays a1_x a2_x.toInt32) (fun o2 => (some o2.toInt64))))))
abbrev sc_A_next (cI cL cM cZ : ClassId) (q_p0 q_p0_calendars q_p0_reader q_p0_current q_p0_kept q_p0_latestRing q_p0_ringFinder q_p0_longest q_p0_net q_p0_spare q_p0_calendars_rules q_p0_calendars_places q_p0_calendars_holidays : Nat) (v_p0_calendars_made : Int32) (v_p0_calendars_holidayCount : Int32) (f_p0_calendars_rules : Nat → Int32) (f_p0_calendars_places : Nat → Int32) (f_p0_calendars_holidays : Nat → Int32) : List va_W := [[(q_p0, .inr (0, [.ref q_p0_calendars, .ref q_p0_reader, .ref q_p0_current, .ref q_p0_kept, .ref q_p0_latestRing, .ref q_p0_ringFinder, .ref q_p0_longest, .ref q_p0_net, .ref q_p0_spare]))], [(q_p0_calendars, .inr (1, [.ref q_p0_calendars_rules, .ref q_p0_calendars_places, .ref q_p0_calendars_holidays, .int v_p0_calendars_made, .int v_p0_calendars_holidayCount]))], [(q_p0_calendars_rules, .inl (cI, 20, .inl f_p0_calendars_rules))], [(q_p0_calendars_places, .inl (cI, 20, .inl f_p0_calendars_places))], [(q_p0_calendars_holidays, .inl (cI, 100, .inl f_p0_calendars_holidays))]]
abbrev rm_A_next : Room := { frames := 4, cells := 0, slots := 0, locals := 91 }
set_option maxHeartbeats 4000000 in
set_option maxRecDepth 100000 in
theorem ct_A_next (l : Launch) (dC : Nat → ClassId) (dI : Nat → Nat → Nat) (cI cL cM cZ : ClassId) (q_p0 q_p0_calendars q_p0_reader q_p0_current q_p0_kept q_p0_latestRing q_p0_ringFinder q_p0_longest q_p0_net q_p0_spare q_p0_calendars_rules q_p0_calendars_places q_p0_calendars_holidays : Nat) (v_p0_calendars_made : Int32) (v_p0_calendars_holidayCount : Int32) (f_p0_calendars_rules : Nat → Int32) (f_p0_calendars_places : Nat → Int32) (f_p0_calendars_holidays : Nat → Int32) (a1_x : Int32) (a2_x : Int64) (N : Nat) (o : Int64) (hm : md_A_next N v_p0_calendars_made v_p0_calendars_holidayCount f_p0_calendars_rules f_p0_calendars_places f_p0_calendars_holidays a1_x a2_x = some o) : ∀ sz : Nat, Met l y_A_next ws_A_next rm_A_next (cP (dC, dI) vwCl [(cI, .int), (cL, .long), (cM, .array .int), (cZ, .boolean)] [.ref q_p0, .int a1_x, .long a2_x] sz (sc_A_next cI cL cM cZ q_p0 q_p0_calendars q_p0_reader q_p0_current q_p0_kept q_p0_latestRing q_p0_ringFinder q_p0_longest q_p0_net q_p0_spare q_p0_calendars_rules q_p0_calendars_places q_p0_calendars_holidays v_p0_calendars_made v_p0_calendars_holidayCount f_p0_calendars_rules f_p0_calendars_places f_p0_calendars_holidays)) (cQl (dC, dI) vwCl [(cI, .int), (cL, .long), (cM, .array .int), (cZ, .boolean)] sz (sc_A_next cI cL cM cZ q_p0 q_p0_calendars q_p0_reader q_p0_current q_p0_kept q_p0_latestRing q_p0_ringFinder q_p0_longest q_p0_net q_p0_spare q_p0_calendars_rules q_p0_calendars_places q_p0_calendars_holidays v_p0_calendars_made v_p0_calendars_holidayCount f_p0_calendars_rules f_p0_calendars_places f_p0_calendars_holidays) o (sc_A_next cI cL cM cZ q_p0 q_p0_calendars q_p0_reader q_p0_current q_p0_kept q_p0_latestRing q_p0_ringFinder q_p0_longest q_p0_net q_p0_spare q_p0_calendars_rules q_p0_calendars_places q_p0_calendars_holidays v_p0_calendars_made v_p0_calendars_holidayCount f_p0_calendars_rules f_p0_calendars_places f_p0_calendars_holidays)) 0 0 (va_A ((sc_A_next cI cL cM cZ q_p0 q_p0_calendars q_p0_reader q_p0_current q_p0_kept q_p0_latestRing q_p0_ringFinder q_p0_longest q_p0_net q_p0_spare q_p0_calendars_rules q_p0_calendars_places q_p0_calendars_holidays v_p0_calendars_made v_p0_calendars_holidayCount f_p0_calendars_rules f_p0_calendars_places f_p0_calendars_holidays)).flatten sz) := by
  refine sg_met (fun sz => cQl (dC, dI) vwCl [(cI, .int), (cL, .long), (cM, .array .int), (cZ, .boolean)] sz (sc_A_next cI cL cM cZ q_p0 q_p0_calendars q_p0_reader q_p0_current q_p0_kept q_p0_latestRing q_p0_ringFinder q_p0_longest q_p0_net q_p0_spare q_p0_calendars_rules q_p0_calendars_places q_p0_calendars_holidays v_p0_calendars_made v_p0_calendars_holidayCount f_p0_calendars_rules f_p0_calendars_places f_p0_calendars_holidays) o (sc_A_next cI cL cM cZ q_p0 q_p0_calendars q_p0_reader q_p0_current q_p0_kept q_p0_latestRing q_p0_ringFinder q_p0_longest q_p0_net q_p0_spare q_p0_calendars_rules q_p0_calendars_places q_p0_calendars_holidays v_p0_calendars_made v_p0_calendars_holidayCount f_p0_calendars_rules f_p0_calendars_places f_p0_calendars_holidays)) (by decide) (Nat.le_of_ble_eq_true rfl) ?_
  intro p e s m args below meth c A Q ls hx hb hr hts hown hlocks hml hname hK hNW hA hAe hQ hw hl
  have hl : lv_has ls 4 [(0, .ref q_p0), (1, .int a1_x), (2, .long a2_x)] := hl
  have hw : wk (dC, dI) vwCl A s.heap [[(q_p0, .inr (0, [.ref q_p0_calendars, .ref q_p0_reader, .ref q_p0_current, .ref q_p0_kept, .ref q_p0_latestRing, .ref q_p0_ringFinder, .ref q_p0_longest, .ref q_p0_net, .ref q_p0_spare]))], [(q_p0_calendars, .inr (1, [.ref q_p0_calendars_rules, .ref q_p0_calendars_places, .ref q_p0_calendars_holidays, .int v_p0_calendars_made, .int v_p0_calendars_holidayCount]))], [(q_p0_calendars_rules, .inl (cI, 20, .inl f_p0_calendars_rules))], [(q_p0_calendars_places, .inl (cI, 20, .inl f_p0_calendars_places))], [(q_p0_calendars_holidays, .inl (cI, 100, .inl f_p0_calendars_holidays))]] s.heap [] := hw
  unfold md_A_next at hm
  refine lv_lload_n hx hb d_A_next_0 rfl (lv_at hl 2 rfl) ?_
  obtain ⟨o1, h1, hm⟩ := zc_x hm
  refine sg_ci0 (Sr := [[(q_p0, .inr (0, [.ref q_p0_calendars, .ref q_p0_reader, .ref q_p0_current, .ref q_p0_kept, .ref q_p0_latestRing, .ref q_p0_ringFinder, .ref q_p0_longest, .ref q_p0_net, .ref q_p0_spare]))], [(q_p0_calendars, .inr (1, [.ref q_p0_calendars_rules, .ref q_p0_calendars_places, .ref q_p0_calendars_holidays, .int v_p0_calendars_made, .int v_p0_calendars_holidayCount]))], [(q_p0_calendars_rules, .inl (cI, 20, .inl f_p0_calendars_rules))], [(q_p0_calendars_places, .inl (cI, 20, .inl f_p0_calendars_places))], [(q_p0_calendars_holidays, .inl (cI, 100, .inl f_p0_calendars_holidays))]]) (va_runS (As := [.long a2_x]) (rest := []) ⟨hx, hb, hml, hown, hts⟩ (ct_A_isDay l dC dI cI cL cM cZ a2_x N o1 h1 _) (cwS 1 hts (gd_S wd_371 wd_372 wd_1 wd_373) rfl rfl rfl (by decide +kernel) ⟨Nat.le_of_ble_eq_true rfl, Nat.le_of_ble_eq_true rfl⟩) (sg_preS hK hNW hw [] rfl rfl) rfl rfl hl.1 rfl (lv_room (Nat.le_of_ble_eq_true rfl)) d_A_next_1 ⟨Nat.le_of_ble_eq_true rfl, Nat.le_of_ble_eq_true rfl⟩) hw hA [] [0, 1, 2, 3, 4] rfl rfl rfl (by decide) (fun H locs hw => ?_)
  have hw : wk (dC, dI) vwCl A s.heap [[(q_p0, .inr (0, [.ref q_p0_calendars, .ref q_p0_reader, .ref q_p0_current, .ref q_p0_kept, .ref q_p0_latestRing, .ref q_p0_ringFinder, .ref q_p0_longest, .ref q_p0_net, .ref q_p0_spare]))], [(q_p0_calendars, .inr (1, [.ref q_p0_calendars_rules, .ref q_p0_calendars_places, .ref q_p0_calendars_holidays, .int v_p0_calendars_made, .int v_p0_calendars_holidayCount]))], [(q_p0_calendars_rules, .inl (cI, 20, .inl f_p0_calendars_rules))], [(q_p0_calendars_places, .inl (cI, 20, .inl f_p0_calendars_places))], [(q_p0_calendars_holidays, .inl (cI, 100, .inl f_p0_calendars_holidays))]] H locs := hw
  refine bq_n (lv_if_ne (tgt := 11) hx hb d_A_next_4 (by decide)) hm (fun hm => ?_) (fun hm => ?_)
  · refine lv_aload_n hx hb d_A_next_11 rfl (lv_at hl 0 rfl) ?_
    refine sg_get (D := (dC, dI)) (ci := 0) (v := .ref q_p0_calendars) (C := "JobNets") (T := T_0) (N := 9) hx hb hts hin_0 hown hK hw 0 rfl rfl 0 (by decide) (hts _ wd_222) rfl rfl d_A_next_12 ?_
    refine lv_iload_n hx hb d_A_next_15 rfl (lv_at hl 1 rfl) ?_
    refine lv_lload_n hx hb d_A_next_16 rfl (lv_at hl 2 rfl) ?_
    refine lv_l2i hx hb d_A_next_17 rfl ?_
    obtain ⟨o2, h2, hm⟩ := zc_x hm
    refine sg_ci0 (Sr := [[(q_p0, .inr (0, [.ref q_p0_calendars, .ref q_p0_reader, .ref q_p0_current, .ref q_p0_kept, .ref q_p0_latestRing, .ref q_p0_ringFinder, .ref q_p0_longest, .ref q_p0_net, .ref q_p0_spare]))]]) (va_runV (As := [.int a1_x, .int a2_x.toInt32]) (rest := []) ⟨hx, hb, hml, hown, hts⟩ (ct_Cal_firstDay l dC dI cI cL cM cZ q_p0_calendars q_p0_calendars_rules q_p0_calendars_places q_p0_calendars_holidays v_p0_calendars_made v_p0_calendars_holidayCount f_p0_calendars_rules f_p0_calendars_places f_p0_calendars_holidays a1_x a2_x.toInt32 N o2 h2 _) (cwV 2 hts (gd_V wd_399 wd_400 wd_401 wd_2 wd_402) rfl rfl rfl (by decide +kernel) ⟨Nat.le_of_ble_eq_true rfl, Nat.le_of_ble_eq_true rfl⟩) (sg_preV (ci := 1) (q0 := 1) hK hNW hw [1, 2, 3, 4] rfl rfl rfl rfl) rfl rfl hl.1 rfl (lv_room (Nat.le_of_ble_eq_true rfl)) d_A_next_18 ⟨Nat.le_of_ble_eq_true rfl, Nat.le_of_ble_eq_true rfl⟩) hw hA [1, 2, 3, 4] [0] rfl rfl rfl (by decide) (fun H locs hw => ?_)
    have hw : wk (dC, dI) vwCl A s.heap [[(q_p0, .inr (0, [.ref q_p0_calendars, .ref q_p0_reader, .ref q_p0_current, .ref q_p0_kept, .ref q_p0_latestRing, .ref q_p0_ringFinder, .ref q_p0_longest, .ref q_p0_net, .ref q_p0_spare]))], [(q_p0_calendars, .inr (1, [.ref q_p0_calendars_rules, .ref q_p0_calendars_places, .ref q_p0_calendars_holidays, .int v_p0_calendars_made, .int v_p0_calendars_holidayCount]))], [(q_p0_calendars_rules, .inl (cI, 20, .inl f_p0_calendars_rules))], [(q_p0_calendars_places, .inl (cI, 20, .inl f_p0_calendars_places))], [(q_p0_calendars_holidays, .inl (cI, 100, .inl f_p0_calendars_holidays))]] H locs := hw
    refine lv_i2l hx hb d_A_next_21 rfl ?_
    obtain rfl := Option.some.inj hm
    exact sg_lret hx hb hr hlocks hAe hQ hK hw d_A_next_22
  · refine lv_ldc2 hx hb (v := -1) hown (hts _ wd_398) d_A_next_7 ?_
    obtain rfl := Option.some.inj hm
    exact sg_lret hx hb hr hlocks hAe hQ hK hw d_A_next_10
theorem d_Pla_startAll_0 : decode prog_6_method_6_code 0 = .ok (.iconst 0, 1) := by decide +kernel
theorem d_Pla_startAll_1 : decode prog_6_method_6_code 1 = .ok (.istore_n 2, 1) := by decide +kernel
theorem d_Pla_startAll_2 : decode prog_6_method_6_code 2 = .ok (.iconst 0, 1) := by decide +kernel
theorem d_Pla_startAll_3 : decode prog_6_method_6_code 3 = .ok (.istore_n 3, 1) := by decide +kernel
theorem d_Pla_startAll_4 : decode prog_6_method_6_code 4 = .ok (.iload_n 3, 1) := by decide +kernel
theorem d_Pla_startAll_5 : decode prog_6_method_6_code 5 = .ok (.bipush 26, 2) := by decide +kernel
theorem d_Pla_startAll_7 : decode prog_6_method_6_code 7 = .ok (.if_icmp .ge 33, 3) := by decide +kernel
theorem d_Pla_startAll_10 : decode prog_6_method_6_code 10 = .ok (.aload_n 0, 1) := by decide +kernel
theorem d_Pla_startAll_11 : decode prog_6_method_6_code 11 = .ok (.aload_n 1, 1) := by decide +kernel
theorem d_Pla_startAll_12 : decode prog_6_method_6_code 12 = .ok (.invokevirtual 55, 3) := by decide +kernel
theorem d_Pla_startAll_15 : decode prog_6_method_6_code 15 = .ok (.istore 4, 2) := by decide +kernel
theorem d_Pla_startAll_17 : decode prog_6_method_6_code 17 = .ok (.iload 4, 2) := by decide +kernel
theorem d_Pla_startAll_19 : decode prog_6_method_6_code 19 = .ok (.ifCond .ne 6, 3) := by decide +kernel
theorem d_Pla_startAll_22 : decode prog_6_method_6_code 22 = .ok (.goto 18, 3) := by decide +kernel
theorem d_Pla_startAll_25 : decode prog_6_method_6_code 25 = .ok (.aload_n 0, 1) := by decide +kernel
theorem d_Pla_startAll_26 : decode prog_6_method_6_code 26 = .ok (.iload 4, 2) := by decide +kernel
theorem d_Pla_startAll_28 : decode prog_6_method_6_code 28 = .ok (.invokevirtual 59, 3) := by decide +kernel
theorem d_Pla_startAll_31 : decode prog_6_method_6_code 31 = .ok (.iinc 2 1, 3) := by decide +kernel
theorem d_Pla_startAll_34 : decode prog_6_method_6_code 34 = .ok (.iinc 3 1, 3) := by decide +kernel
theorem d_Pla_startAll_37 : decode prog_6_method_6_code 37 = .ok (.goto (-33), 3) := by decide +kernel
theorem d_Pla_startAll_40 : decode prog_6_method_6_code 40 = .ok (.iload_n 2, 1) := by decide +kernel
theorem d_Pla_startAll_41 : decode prog_6_method_6_code 41 = .ok (.ireturn, 1) := by decide +kernel
def md_Pla_startAll_F4 (v_p0_time : Int32) (v_p1_jobs : Int32) (g_p1_numbers : Nat → Nat → Int32) (f_p1_needCounts : Nat → Int32) (g_p1_needed : Nat → Nat → Int32) (g_p1_conditions : Nat → Nat → Int32) (N : Nat) (rec4 : Int32 → Int32 → Int32 → (Nat → Int32) → (Nat → Int32) → (Nat → Int32) → (Nat → Int32) → Option (Int32 × Int32 × (Nat → Int32) × (Nat → Int32) × (Nat → Int32) × (Nat → Int32))) (x1 : Int32) (x2 : Int32) (x3 : Int32) (f4 : Nat → Int32) (f5 : Nat → Int32) (f6 : Nat → Int32) (f7 : Nat → Int32) : Option (Int32 × Int32 × (Nat → Int32) × (Nat → Int32) × (Nat → Int32) × (Nat → Int32)) :=
  (if (26 : Int32) ≤ x1 then (some (x2, x3, f4, f5, f6, f7)) else (zc (md_Pla_firstToStart N v_p0_time f4 v_p1_jobs g_p1_numbers f_p1_needCounts g_p1_needed g_p1_conditions) (fun o8 => (if o8 = 0 then (some (x2, x3, f4, f5, f6, f7)) else (zc (md_Pla_start N x3 v_p0_time f4 f5 f6 f7 o8) (fun o9 => (rec4 (x1 + 1) (x2 + 1) o9.1 o9.2.1 o9.2.2.1 o9.2.2.2.1 o9.2.2.2.2)))))))
def md_Pla_startAll (N : Nat) (v_p0_starts : Int32) (v_p0_time : Int32) (f_p0_states : Nat → Int32) (f_p0_startTimes : Nat → Int32) (f_p0_loggedJobs : Nat → Int32) (f_p0_loggedTimes : Nat → Int32) (v_p1_jobs : Int32) (g_p1_numbers : Nat → Nat → Int32) (f_p1_needCounts : Nat → Int32) (g_p1_needed : Nat → Nat → Int32) (g_p1_conditions : Nat → Nat → Int32) : Option (Int32 × Int32 × (Nat → Int32) × (Nat → Int32) × (Nat → Int32) × (Nat → Int32)) :=
  (fx7 (md_Pla_startAll_F4 v_p0_time v_p1_jobs g_p1_numbers f_p1_needCounts g_p1_needed g_p1_conditions N) N (0 : Int32) (0 : Int32) v_p0_starts f_p0_states f_p0_startTimes f_p0_loggedJobs f_p0_loggedTimes)
abbrev sc_Pla_startAll (cI cL cM cZ : ClassId) (q_p0 q_p1 q_p0_states q_p0_startTimes q_p0_loggedJobs q_p0_loggedTimes q_p1_numbers q_p1_needCounts q_p1_needed q_p1_conditions q_p1_allNeeded : Nat) (d_p1_numbers d_p1_needed d_p1_conditions : Nat → Nat) (v_p0_starts : Int32) (v_p0_time : Int32) (f_p0_states : Nat → Int32) (f_p0_startTimes : Nat → Int32) (f_p0_loggedJobs : Nat → Int32) (f_p0_loggedTimes : Nat → Int32) (v_p1_jobs : Int32) (g_p1_numbers : Nat → Nat → Int32) (f_p1_needCounts : Nat → Int32) (g_p1_needed : Nat → Nat → Int32) (g_p1_conditions : Nat → Nat → Int32) : List va_W := [[(q_p0, .inr (5, [.ref q_p0_states, .ref q_p0_startTimes, .ref q_p0_loggedJobs, .ref q_p0_loggedTimes, .int v_p0_starts, .int v_p0_time]))], [(q_p0_states, .inl (cI, 27, .inl f_p0_states))], [(q_p0_startTimes, .inl (cI, 27, .inl f_p0_startTimes))], [(q_p0_loggedJobs, .inl (cI, 538, .inl f_p0_loggedJobs))], [(q_p0_loggedTimes, .inl (cI, 538, .inl f_p0_loggedTimes))], [(q_p1, .inr (4, [.ref q_p1_numbers, .ref q_p1_needCounts, .ref q_p1_needed, .ref q_p1_conditions, .ref q_p1_allNeeded, .int v_p1_jobs]))], [(q_p1_numbers, .inl (cM, gro 27 d_p1_numbers))], gl cI d_p1_numbers 27 4 g_p1_numbers, [(q_p1_needCounts, .inl (cI, 27, .inl f_p1_needCounts))], [(q_p1_needed, .inl (cM, gro 27 d_p1_needed))], gl cI d_p1_needed 27 20 g_p1_needed, [(q_p1_conditions, .inl (cM, gro 27 d_p1_conditions))], gl cI d_p1_conditions 27 20 g_p1_conditions]
abbrev rm_Pla_startAll : Room := { frames := 3, cells := 0, slots := 0, locals := 67 }
set_option maxHeartbeats 4000000 in
set_option maxRecDepth 100000 in
theorem ct_Pla_startAll (l : Launch) (dC : Nat → ClassId) (dI : Nat → Nat → Nat) (cI cL cM cZ : ClassId) (q_p0 q_p1 q_p0_states q_p0_startTimes q_p0_loggedJobs q_p0_loggedTimes q_p1_numbers q_p1_needCounts q_p1_needed q_p1_conditions q_p1_allNeeded : Nat) (d_p1_numbers d_p1_needed d_p1_conditions : Nat → Nat) (v_p0_starts : Int32) (v_p0_time : Int32) (f_p0_states : Nat → Int32) (f_p0_startTimes : Nat → Int32) (f_p0_loggedJobs : Nat → Int32) (f_p0_loggedTimes : Nat → Int32) (v_p1_jobs : Int32) (g_p1_numbers : Nat → Nat → Int32) (f_p1_needCounts : Nat → Int32) (g_p1_needed : Nat → Nat → Int32) (g_p1_conditions : Nat → Nat → Int32) (N : Nat) (o : Int32 × Int32 × (Nat → Int32) × (Nat → Int32) × (Nat → Int32) × (Nat → Int32)) (hm : md_Pla_startAll N v_p0_starts v_p0_time f_p0_states f_p0_startTimes f_p0_loggedJobs f_p0_loggedTimes v_p1_jobs g_p1_numbers f_p1_needCounts g_p1_needed g_p1_conditions = some o) : ∀ sz : Nat, Met l y_Pla_startAll ws_Pla_startAll rm_Pla_startAll (cP (dC, dI) vwCl [(cI, .int), (cL, .long), (cM, .array .int), (cZ, .boolean)] [.ref q_p0, .ref q_p1] sz (sc_Pla_startAll cI cL cM cZ q_p0 q_p1 q_p0_states q_p0_startTimes q_p0_loggedJobs q_p0_loggedTimes q_p1_numbers q_p1_needCounts q_p1_needed q_p1_conditions q_p1_allNeeded d_p1_numbers d_p1_needed d_p1_conditions v_p0_starts v_p0_time f_p0_states f_p0_startTimes f_p0_loggedJobs f_p0_loggedTimes v_p1_jobs g_p1_numbers f_p1_needCounts g_p1_needed g_p1_conditions)) (cQi (dC, dI) vwCl [(cI, .int), (cL, .long), (cM, .array .int), (cZ, .boolean)] sz (sc_Pla_startAll cI cL cM cZ q_p0 q_p1 q_p0_states q_p0_startTimes q_p0_loggedJobs q_p0_loggedTimes q_p1_numbers q_p1_needCounts q_p1_needed q_p1_conditions q_p1_allNeeded d_p1_numbers d_p1_needed d_p1_conditions v_p0_starts v_p0_time f_p0_states f_p0_startTimes f_p0_loggedJobs f_p0_loggedTimes v_p1_jobs g_p1_numbers f_p1_needCounts g_p1_needed g_p1_conditions) o.1 (sc_Pla_startAll cI cL cM cZ q_p0 q_p1 q_p0_states q_p0_startTimes q_p0_loggedJobs q_p0_loggedTimes q_p1_numbers q_p1_needCounts q_p1_needed q_p1_conditions q_p1_allNeeded d_p1_numbers d_p1_needed d_p1_conditions o.2.1 v_p0_time o.2.2.1 o.2.2.2.1 o.2.2.2.2.1 o.2.2.2.2.2 v_p1_jobs g_p1_numbers f_p1_needCounts g_p1_needed g_p1_conditions)) 0 0 (va_A ((sc_Pla_startAll cI cL cM cZ q_p0 q_p1 q_p0_states q_p0_startTimes q_p0_loggedJobs q_p0_loggedTimes q_p1_numbers q_p1_needCounts q_p1_needed q_p1_conditions q_p1_allNeeded d_p1_numbers d_p1_needed d_p1_conditions v_p0_starts v_p0_time f_p0_states f_p0_startTimes f_p0_loggedJobs f_p0_loggedTimes v_p1_jobs g_p1_numbers f_p1_needCounts g_p1_needed g_p1_conditions)).flatten sz) := by
  refine sg_met (fun sz => cQi (dC, dI) vwCl [(cI, .int), (cL, .long), (cM, .array .int), (cZ, .boolean)] sz (sc_Pla_startAll cI cL cM cZ q_p0 q_p1 q_p0_states q_p0_startTimes q_p0_loggedJobs q_p0_loggedTimes q_p1_numbers q_p1_needCounts q_p1_needed q_p1_conditions q_p1_allNeeded d_p1_numbers d_p1_needed d_p1_conditions v_p0_starts v_p0_time f_p0_states f_p0_startTimes f_p0_loggedJobs f_p0_loggedTimes v_p1_jobs g_p1_numbers f_p1_needCounts g_p1_needed g_p1_conditions) o.1 (sc_Pla_startAll cI cL cM cZ q_p0 q_p1 q_p0_states q_p0_startTimes q_p0_loggedJobs q_p0_loggedTimes q_p1_numbers q_p1_needCounts q_p1_needed q_p1_conditions q_p1_allNeeded d_p1_numbers d_p1_needed d_p1_conditions o.2.1 v_p0_time o.2.2.1 o.2.2.2.1 o.2.2.2.2.1 o.2.2.2.2.2 v_p1_jobs g_p1_numbers f_p1_needCounts g_p1_needed g_p1_conditions)) (by decide) (Nat.le_of_ble_eq_true rfl) ?_
  intro p e s m args below meth c A Q ls hx hb hr hts hown hlocks hml hname hK hNW hA hAe hQ hw hl
  have hl : lv_has ls 5 [(0, .ref q_p0), (1, .ref q_p1)] := hl
  have hw : wk (dC, dI) vwCl A s.heap [[(q_p0, .inr (5, [.ref q_p0_states, .ref q_p0_startTimes, .ref q_p0_loggedJobs, .ref q_p0_loggedTimes, .int v_p0_starts, .int v_p0_time]))], [(q_p0_states, .inl (cI, 27, .inl f_p0_states))], [(q_p0_startTimes, .inl (cI, 27, .inl f_p0_startTimes))], [(q_p0_loggedJobs, .inl (cI, 538, .inl f_p0_loggedJobs))], [(q_p0_loggedTimes, .inl (cI, 538, .inl f_p0_loggedTimes))], [(q_p1, .inr (4, [.ref q_p1_numbers, .ref q_p1_needCounts, .ref q_p1_needed, .ref q_p1_conditions, .ref q_p1_allNeeded, .int v_p1_jobs]))], [(q_p1_numbers, .inl (cM, gro 27 d_p1_numbers))], gl cI d_p1_numbers 27 4 g_p1_numbers, [(q_p1_needCounts, .inl (cI, 27, .inl f_p1_needCounts))], [(q_p1_needed, .inl (cM, gro 27 d_p1_needed))], gl cI d_p1_needed 27 20 g_p1_needed, [(q_p1_conditions, .inl (cM, gro 27 d_p1_conditions))], gl cI d_p1_conditions 27 20 g_p1_conditions] s.heap [] := hw
  unfold md_Pla_startAll at hm
  refine lv_iconst (v := 0) hx hb d_Pla_startAll_0 (by decide) ?_
  refine lv_istore_n (lv' := [(2, .int (0 : Int32)), (0, .ref q_p0), (1, .ref q_p1)]) hx hb d_Pla_startAll_1 rfl hl (by decide) rfl (fun ls hl => ?_)
  refine lv_iconst (v := 0) hx hb d_Pla_startAll_2 (by decide) ?_
  refine lv_istore_n (lv' := [(3, .int (0 : Int32)), (2, .int (0 : Int32)), (0, .ref q_p0), (1, .ref q_p1)]) hx hb d_Pla_startAll_3 rfl hl (by decide) rfl (fun ls hl => ?_)
  obtain ⟨Fn4, hFn4, hm⟩ := fx7_x hm
  have L4 : ∀ (n : Nat) (x1 : Int32) (x2 : Int32) (x3 : Int32) (f4 : Nat → Int32) (f5 : Nat → Int32) (f6 : Nat → Int32) (f7 : Nat → Int32), fx7 Fn4 n x1 x2 x3 f4 f5 f6 f7 = some o → ∀ (H : Heap) (locs : List Loc) (ls : Array Slot), wk (dC, dI) vwCl A s.heap [[(q_p0, .inr (5, [.ref q_p0_states, .ref q_p0_startTimes, .ref q_p0_loggedJobs, .ref q_p0_loggedTimes, .int x3, .int v_p0_time]))], [(q_p0_states, .inl (cI, 27, .inl f4))], [(q_p0_startTimes, .inl (cI, 27, .inl f5))], [(q_p0_loggedJobs, .inl (cI, 538, .inl f6))], [(q_p0_loggedTimes, .inl (cI, 538, .inl f7))], [(q_p1, .inr (4, [.ref q_p1_numbers, .ref q_p1_needCounts, .ref q_p1_needed, .ref q_p1_conditions, .ref q_p1_allNeeded, .int v_p1_jobs]))], [(q_p1_numbers, .inl (cM, gro 27 d_p1_numbers))], gl cI d_p1_numbers 27 4 g_p1_numbers, [(q_p1_needCounts, .inl (cI, 27, .inl f_p1_needCounts))], [(q_p1_needed, .inl (cM, gro 27 d_p1_needed))], gl cI d_p1_needed 27 20 g_p1_needed, [(q_p1_conditions, .inl (cM, gro 27 d_p1_conditions))], gl cI d_p1_conditions 27 20 g_p1_conditions] H locs → lv_has ls 5 [(3, .int x1), (2, .int x2), (0, .ref q_p0), (1, .ref q_p1)] → W p l e rm_Pla_startAll s m args below meth c H locs 0 0 Q (F0 m 4 ls []) := by
    intro n
    induction n with
    | zero => intro x1 x2 x3 f4 f5 f6 f7 hm; exact (fx7_0 hm).elim
    | succ n ih4 =>
      intro x1 x2 x3 f4 f5 f6 f7 hm H locs ls hw hl
      have hm := fx7_s hFn4 hm
      unfold md_Pla_startAll_F4 at hm
      refine lv_iload_n hx hb d_Pla_startAll_4 rfl (lv_at hl 0 rfl) ?_
      refine lv_bipush (v := 26) hx hb d_Pla_startAll_5 (by decide) ?_
      refine bq_t (lv_icmp_ge (tgt := 40) hx hb d_Pla_startAll_7 (by decide)) hm (fun hm => ?_) (fun hm => ?_)
      · refine lv_iload_n hx hb d_Pla_startAll_40 rfl (lv_at hl 1 rfl) ?_
        obtain rfl := Option.some.inj hm
        exact sg_iret hx hb hr hlocks hAe hQ hK hw d_Pla_startAll_41
      · refine lv_aload_n hx hb d_Pla_startAll_10 rfl (lv_at hl 2 rfl) ?_
        refine lv_aload_n hx hb d_Pla_startAll_11 rfl (lv_at hl 3 rfl) ?_
        obtain ⟨o8, h8, hm⟩ := zc_x hm
        refine sg_ci0 (Sr := [[(q_p0_startTimes, .inl (cI, 27, .inl f5))], [(q_p0_loggedJobs, .inl (cI, 538, .inl f6))], [(q_p0_loggedTimes, .inl (cI, 538, .inl f7))]]) (va_runV (As := [.ref q_p1]) (rest := []) ⟨hx, hb, hml, hown, hts⟩ (ct_Pla_firstToStart l dC dI cI cL cM cZ q_p0 q_p1 q_p0_states q_p0_startTimes q_p0_loggedJobs q_p0_loggedTimes q_p1_numbers q_p1_needCounts q_p1_needed q_p1_conditions q_p1_allNeeded d_p1_numbers d_p1_needed d_p1_conditions x3 v_p0_time f4 v_p1_jobs g_p1_numbers f_p1_needCounts g_p1_needed g_p1_conditions N o8 h8 _) (cwV 1 hts (gd_V wd_432 wd_434 ws_12 wd_4 wd_435) rfl rfl rfl (by decide +kernel) ⟨Nat.le_of_ble_eq_true rfl, Nat.le_of_ble_eq_true rfl⟩) (sg_preV (ci := 5) (q0 := 0) hK hNW hw [0, 1, 5, 6, 7, 8, 9, 10, 11, 12] rfl rfl rfl rfl) rfl rfl hl.1 rfl (lv_room (Nat.le_of_ble_eq_true rfl)) d_Pla_startAll_12 ⟨Nat.le_of_ble_eq_true rfl, Nat.le_of_ble_eq_true rfl⟩) hw hA [0, 1, 5, 6, 7, 8, 9, 10, 11, 12] [2, 3, 4] rfl rfl rfl (by decide) (fun H locs hw => ?_)
        have hw : wk (dC, dI) vwCl A s.heap [[(q_p0_startTimes, .inl (cI, 27, .inl f5))], [(q_p0_loggedJobs, .inl (cI, 538, .inl f6))], [(q_p0_loggedTimes, .inl (cI, 538, .inl f7))], [(q_p0, .inr (5, [.ref q_p0_states, .ref q_p0_startTimes, .ref q_p0_loggedJobs, .ref q_p0_loggedTimes, .int x3, .int v_p0_time]))], [(q_p0_states, .inl (cI, 27, .inl f4))], [(q_p1, .inr (4, [.ref q_p1_numbers, .ref q_p1_needCounts, .ref q_p1_needed, .ref q_p1_conditions, .ref q_p1_allNeeded, .int v_p1_jobs]))], [(q_p1_numbers, .inl (cM, gro 27 d_p1_numbers))], gl cI d_p1_numbers 27 4 g_p1_numbers, [(q_p1_needCounts, .inl (cI, 27, .inl f_p1_needCounts))], [(q_p1_needed, .inl (cM, gro 27 d_p1_needed))], gl cI d_p1_needed 27 20 g_p1_needed, [(q_p1_conditions, .inl (cM, gro 27 d_p1_conditions))], gl cI d_p1_conditions 27 20 g_p1_conditions] H locs := hw
        refine lv_istore (lv' := [(4, .int o8), (3, .int x1), (2, .int x2), (0, .ref q_p0), (1, .ref q_p1)]) hx hb d_Pla_startAll_15 hl (by decide) rfl (fun ls hl => ?_)
        refine lv_iload hx hb d_Pla_startAll_17 (lv_at hl 0 rfl) ?_
        refine bq_n (lv_if_ne (tgt := 25) hx hb d_Pla_startAll_19 (by decide)) hm (fun hm => ?_) (fun hm => ?_)
        · refine lv_aload_n hx hb d_Pla_startAll_25 rfl (lv_at hl 3 rfl) ?_
          refine lv_iload hx hb d_Pla_startAll_26 (lv_at hl 0 rfl) ?_
          obtain ⟨o9, h9, hm⟩ := zc_x hm
          refine sg_cv0 (Sr := [[(q_p1, .inr (4, [.ref q_p1_numbers, .ref q_p1_needCounts, .ref q_p1_needed, .ref q_p1_conditions, .ref q_p1_allNeeded, .int v_p1_jobs]))], [(q_p1_numbers, .inl (cM, gro 27 d_p1_numbers))], gl cI d_p1_numbers 27 4 g_p1_numbers, [(q_p1_needCounts, .inl (cI, 27, .inl f_p1_needCounts))], [(q_p1_needed, .inl (cM, gro 27 d_p1_needed))], gl cI d_p1_needed 27 20 g_p1_needed, [(q_p1_conditions, .inl (cM, gro 27 d_p1_conditions))], gl cI d_p1_conditions 27 20 g_p1_conditions]) (va_runV (As := [.int o8]) (rest := []) ⟨hx, hb, hml, hown, hts⟩ (ct_Pla_start l dC dI cI cL cM cZ q_p0 q_p0_states q_p0_startTimes q_p0_loggedJobs q_p0_loggedTimes x3 v_p0_time f4 f5 f6 f7 o8 N o9 h9 _) (cwV 1 hts (gd_V wd_443 wd_445 ws_14 wd_4 wd_446) rfl rfl rfl (by decide +kernel) ⟨Nat.le_of_ble_eq_true rfl, Nat.le_of_ble_eq_true rfl⟩) (sg_preV (ci := 5) (q0 := 3) hK hNW hw [3, 4, 0, 1, 2] rfl rfl rfl rfl) rfl rfl hl.1 rfl (lv_room (Nat.le_of_ble_eq_true rfl)) d_Pla_startAll_28 ⟨Nat.le_of_ble_eq_true rfl, Nat.le_of_ble_eq_true rfl⟩) hw hA [3, 4, 0, 1, 2] [5, 6, 7, 8, 9, 10, 11, 12] rfl rfl rfl (by decide) (fun H locs hw => ?_)
          have hw : wk (dC, dI) vwCl A s.heap [[(q_p1, .inr (4, [.ref q_p1_numbers, .ref q_p1_needCounts, .ref q_p1_needed, .ref q_p1_conditions, .ref q_p1_allNeeded, .int v_p1_jobs]))], [(q_p1_numbers, .inl (cM, gro 27 d_p1_numbers))], gl cI d_p1_numbers 27 4 g_p1_numbers, [(q_p1_needCounts, .inl (cI, 27, .inl f_p1_needCounts))], [(q_p1_needed, .inl (cM, gro 27 d_p1_needed))], gl cI d_p1_needed 27 20 g_p1_needed, [(q_p1_conditions, .inl (cM, gro 27 d_p1_conditions))], gl cI d_p1_conditions 27 20 g_p1_conditions, [(q_p0, .inr (5, [.ref q_p0_states, .ref q_p0_startTimes, .ref q_p0_loggedJobs, .ref q_p0_loggedTimes, .int o9.1, .int v_p0_time]))], [(q_p0_states, .inl (cI, 27, .inl o9.2.1))], [(q_p0_startTimes, .inl (cI, 27, .inl o9.2.2.1))], [(q_p0_loggedJobs, .inl (cI, 538, .inl o9.2.2.2.1))], [(q_p0_loggedTimes, .inl (cI, 538, .inl o9.2.2.2.2))]] H locs := hw
          refine lv_iinc (v := x2 + 1) (lv' := [(2, .int (x2 + 1)), (4, .int o8), (3, .int x1), (0, .ref q_p0), (1, .ref q_p1)]) hx hb d_Pla_startAll_31 hl (k := 2) rfl rfl (by decide) rfl (fun ls hl => ?_)
          refine lv_iinc (v := x1 + 1) (lv' := [(3, .int (x1 + 1)), (2, .int (x2 + 1)), (4, .int o8), (0, .ref q_p0), (1, .ref q_p1)]) hx hb d_Pla_startAll_34 hl (k := 2) rfl rfl (by decide) rfl (fun ls hl => ?_)
          refine lv_goto (tgt := 4) hx hb d_Pla_startAll_37 (by decide) ?_
          exact ih4 (x1 + 1) (x2 + 1) o9.1 o9.2.1 o9.2.2.1 o9.2.2.2.1 o9.2.2.2.2 hm _ _ _ (hw.sub [8, 9, 10, 11, 12, 0, 1, 2, 3, 4, 5, 6, 7] (by decide) rfl) (lv_sub hl [0, 1, 3, 4] rfl)
        · refine lv_goto (tgt := 40) hx hb d_Pla_startAll_22 (by decide) ?_
          refine lv_iload_n hx hb d_Pla_startAll_40 rfl (lv_at hl 2 rfl) ?_
          obtain rfl := Option.some.inj hm
          exact sg_iret hx hb hr hlocks hAe hQ hK (hw.sub [3, 4, 0, 1, 2, 5, 6, 7, 8, 9, 10, 11, 12] (by decide) rfl) d_Pla_startAll_41
  exact L4 _ _ _ _ _ _ _ _ hm _ _ _ hw hl
theorem d_Tex_parseJob_0 : decode prog_8_method_6_code 0 = .ok (.aload_n 0, 1) := by decide +kernel
theorem d_Tex_parseJob_1 : decode prog_8_method_6_code 1 = .ok (.invokevirtual 62, 3) := by decide +kernel
theorem d_Tex_parseJob_4 : decode prog_8_method_6_code 4 = .ok (.istore_n 3, 1) := by decide +kernel
theorem d_Tex_parseJob_5 : decode prog_8_method_6_code 5 = .ok (.iload_n 3, 1) := by decide +kernel
theorem d_Tex_parseJob_6 : decode prog_8_method_6_code 6 = .ok (.iconst (-1), 1) := by decide +kernel
theorem d_Tex_parseJob_7 : decode prog_8_method_6_code 7 = .ok (.if_icmp .eq 12, 3) := by decide +kernel
theorem d_Tex_parseJob_10 : decode prog_8_method_6_code 10 = .ok (.aload_n 0, 1) := by decide +kernel
theorem d_Tex_parseJob_11 : decode prog_8_method_6_code 11 = .ok (.getfield 15, 3) := by decide +kernel
theorem d_Tex_parseJob_14 : decode prog_8_method_6_code 14 = .ok (.iload_n 3, 1) := by decide +kernel
theorem d_Tex_parseJob_15 : decode prog_8_method_6_code 15 = .ok (.iaload, 1) := by decide +kernel
theorem d_Tex_parseJob_16 : decode prog_8_method_6_code 16 = .ok (.ifCond .eq 5, 3) := by decide +kernel
theorem d_Tex_parseJob_19 : decode prog_8_method_6_code 19 = .ok (.iconst 0, 1) := by decide +kernel
theorem d_Tex_parseJob_20 : decode prog_8_method_6_code 20 = .ok (.ireturn, 1) := by decide +kernel
theorem d_Tex_parseJob_21 : decode prog_8_method_6_code 21 = .ok (.aload_n 0, 1) := by decide +kernel
theorem d_Tex_parseJob_22 : decode prog_8_method_6_code 22 = .ok (.getfield 15, 3) := by decide +kernel
theorem d_Tex_parseJob_25 : decode prog_8_method_6_code 25 = .ok (.iload_n 3, 1) := by decide +kernel
theorem d_Tex_parseJob_26 : decode prog_8_method_6_code 26 = .ok (.iload_n 2, 1) := by decide +kernel
theorem d_Tex_parseJob_27 : decode prog_8_method_6_code 27 = .ok (.iastore, 1) := by decide +kernel
theorem d_Tex_parseJob_28 : decode prog_8_method_6_code 28 = .ok (.aload_n 1, 1) := by decide +kernel
theorem d_Tex_parseJob_29 : decode prog_8_method_6_code 29 = .ok (.iload_n 2, 1) := by decide +kernel
theorem d_Tex_parseJob_30 : decode prog_8_method_6_code 30 = .ok (.putfield 66, 3) := by decide +kernel
theorem d_Tex_parseJob_33 : decode prog_8_method_6_code 33 = .ok (.aload_n 0, 1) := by decide +kernel
theorem d_Tex_parseJob_34 : decode prog_8_method_6_code 34 = .ok (.dup, 1) := by decide +kernel
theorem d_Tex_parseJob_35 : decode prog_8_method_6_code 35 = .ok (.getfield 34, 3) := by decide +kernel
theorem d_Tex_parseJob_38 : decode prog_8_method_6_code 38 = .ok (.iconst 1, 1) := by decide +kernel
theorem d_Tex_parseJob_39 : decode prog_8_method_6_code 39 = .ok (.iadd, 1) := by decide +kernel
theorem d_Tex_parseJob_40 : decode prog_8_method_6_code 40 = .ok (.putfield 34, 3) := by decide +kernel
theorem d_Tex_parseJob_43 : decode prog_8_method_6_code 43 = .ok (.iconst 0, 1) := by decide +kernel
theorem d_Tex_parseJob_44 : decode prog_8_method_6_code 44 = .ok (.istore 4, 2) := by decide +kernel
theorem d_Tex_parseJob_46 : decode prog_8_method_6_code 46 = .ok (.iload 4, 2) := by decide +kernel
theorem d_Tex_parseJob_48 : decode prog_8_method_6_code 48 = .ok (.iconst 4, 1) := by decide +kernel
theorem d_Tex_parseJob_49 : decode prog_8_method_6_code 49 = .ok (.if_icmp .ge 35, 3) := by decide +kernel
theorem d_Tex_parseJob_52 : decode prog_8_method_6_code 52 = .ok (.aload_n 0, 1) := by decide +kernel
theorem d_Tex_parseJob_53 : decode prog_8_method_6_code 53 = .ok (.invokevirtual 51, 3) := by decide +kernel
theorem d_Tex_parseJob_56 : decode prog_8_method_6_code 56 = .ok (.aload_n 0, 1) := by decide +kernel
theorem d_Tex_parseJob_57 : decode prog_8_method_6_code 57 = .ok (.invokevirtual 69, 3) := by decide +kernel
theorem d_Tex_parseJob_60 : decode prog_8_method_6_code 60 = .ok (.ifCond .ne 5, 3) := by decide +kernel
theorem d_Tex_parseJob_63 : decode prog_8_method_6_code 63 = .ok (.iconst 0, 1) := by decide +kernel
theorem d_Tex_parseJob_64 : decode prog_8_method_6_code 64 = .ok (.ireturn, 1) := by decide +kernel
theorem d_Tex_parseJob_65 : decode prog_8_method_6_code 65 = .ok (.aload_n 1, 1) := by decide +kernel
theorem d_Tex_parseJob_66 : decode prog_8_method_6_code 66 = .ok (.getfield 73, 3) := by decide +kernel
theorem d_Tex_parseJob_69 : decode prog_8_method_6_code 69 = .ok (.iload_n 2, 1) := by decide +kernel
theorem d_Tex_parseJob_70 : decode prog_8_method_6_code 70 = .ok (.aaload, 1) := by decide +kernel
theorem d_Tex_parseJob_71 : decode prog_8_method_6_code 71 = .ok (.iload 4, 2) := by decide +kernel
theorem d_Tex_parseJob_73 : decode prog_8_method_6_code 73 = .ok (.aload_n 0, 1) := by decide +kernel
theorem d_Tex_parseJob_74 : decode prog_8_method_6_code 74 = .ok (.getfield 37, 3) := by decide +kernel
theorem d_Tex_parseJob_77 : decode prog_8_method_6_code 77 = .ok (.iastore, 1) := by decide +kernel
theorem d_Tex_parseJob_78 : decode prog_8_method_6_code 78 = .ok (.iinc 4 1, 3) := by decide +kernel
theorem d_Tex_parseJob_81 : decode prog_8_method_6_code 81 = .ok (.goto (-35), 3) := by decide +kernel
theorem d_Tex_parseJob_84 : decode prog_8_method_6_code 84 = .ok (.aload_n 0, 1) := by decide +kernel
theorem d_Tex_parseJob_85 : decode prog_8_method_6_code 85 = .ok (.iload_n 2, 1) := by decide +kernel
theorem d_Tex_parseJob_86 : decode prog_8_method_6_code 86 = .ok (.invokevirtual 77, 3) := by decide +kernel
theorem d_Tex_parseJob_89 : decode prog_8_method_6_code 89 = .ok (.ireturn, 1) := by decide +kernel
def md_Tex_parseJob_F46 (v_p0_pending : Int32) (v_p0_length : Int32) (f_p0_text : Nat → Int32) (f_p0_owners : Nat → Int32) (f_p0_namePlaces : Nat → Int32) (f_p0_conditions : Nat → Int32) (a2_x : Int32) (N : Nat) (f2 : Nat → Int32) (rec46 : Int32 → Int32 → Int32 → (Nat → Nat → Int32) → Option (Int32 × Int32 × Int32 × Int32 × (Nat → Int32) × (Nat → Int32) × (Nat → Int32) × (Nat → Int32) × Int32 × (Nat → Nat → Int32))) (x3 : Int32) (x4 : Int32) (x5 : Int32) (g6 : Nat → Nat → Int32) : Option (Int32 × Int32 × Int32 × Int32 × (Nat → Int32) × (Nat → Int32) × (Nat → Int32) × (Nat → Int32) × Int32 × (Nat → Nat → Int32)) :=
  (if (4 : Int32) ≤ x3 then (zc (md_Tex_parseNeeds N v_p0_pending v_p0_length x4 f_p0_text f_p0_owners f_p0_namePlaces f_p0_conditions a2_x) (fun o7 => (if zb o7.1 = true then (some (o7.1, o7.2.1, o7.2.2.1, x5, f2, o7.2.2.2.1, o7.2.2.2.2.1, o7.2.2.2.2.2, a2_x, g6)) else none))) else (zc (md_Tex_skipBlanks N v_p0_length x4 f_p0_text) (fun o8 => (zc (md_Tex_parseNumber N v_p0_length o8 x5 f_p0_text) (fun o9 => (if o9.1 = 0 then (some ((0 : Int32), v_p0_pending, o9.2.1, o9.2.2, f2, f_p0_owners, f_p0_namePlaces, f_p0_conditions, a2_x, g6)) else (if sg_in a2_x 27 = true then (if sg_in x3 4 = true then zl (gup g6 a2_x.toNatClampNeg x3.toNatClampNeg o9.2.2) (fun g11 => (rec46 (x3 + 1) o9.2.1 o9.2.2 g11)) else none) else none)))))))
def md_Tex_parseJob (N : Nat) (v_p0_pending : Int32) (v_p0_length : Int32) (v_p0_at : Int32) (v_p0_number : Int32) (f_p0_text : Nat → Int32) (f_p0_jobOfLetter : Nat → Int32) (f_p0_owners : Nat → Int32) (f_p0_namePlaces : Nat → Int32) (f_p0_conditions : Nat → Int32) (v_p1_jobs : Int32) (g_p1_numbers : Nat → Nat → Int32) (a2_x : Int32) : Option (Int32 × Int32 × Int32 × Int32 × (Nat → Int32) × (Nat → Int32) × (Nat → Int32) × (Nat → Int32) × Int32 × (Nat → Nat → Int32)) :=
  (zc (md_Tex_letterHere N v_p0_length v_p0_at f_p0_text) (fun o1 => (if o1 = (-1 : Int32) then (some ((0 : Int32), v_p0_pending, v_p0_at, v_p0_number, f_p0_jobOfLetter, f_p0_owners, f_p0_namePlaces, f_p0_conditions, v_p1_jobs, g_p1_numbers)) else (if sg_in o1 26 = true then (if (f_p0_jobOfLetter o1.toNatClampNeg) = 0 then (if sg_in o1 26 = true then zl (upd f_p0_jobOfLetter o1.toNatClampNeg a2_x) (fun f2 => (fx4 (md_Tex_parseJob_F46 v_p0_pending v_p0_length f_p0_text f_p0_owners f_p0_namePlaces f_p0_conditions a2_x N f2) N (0 : Int32) (v_p0_at + (1 : Int32)) v_p0_number g_p1_numbers)) else none) else (some ((0 : Int32), v_p0_pending, v_p0_at, v_p0_number, f_p0_jobOfLetter, f_p0_owners, f_p0_namePlaces, f_p0_conditions, v_p1_jobs, g_p1_numbers))) else none))))
abbrev sc_Tex_parseJob (cI cL cM cZ : ClassId) (q_p0 q_p1 q_p0_text q_p0_jobOfLetter q_p0_owners q_p0_namePlaces q_p0_conditions q_p1_numbers q_p1_needCounts q_p1_needed q_p1_conditions q_p1_allNeeded : Nat) (d_p1_numbers : Nat → Nat) (v_p0_pending : Int32) (v_p0_length : Int32) (v_p0_at : Int32) (v_p0_number : Int32) (f_p0_text : Nat → Int32) (f_p0_jobOfLetter : Nat → Int32) (f_p0_owners : Nat → Int32) (f_p0_namePlaces : Nat → Int32) (f_p0_conditions : Nat → Int32) (v_p1_jobs : Int32) (g_p1_numbers : Nat → Nat → Int32) : List va_W := [[(q_p0, .inr (7, [.ref q_p0_text, .ref q_p0_jobOfLetter, .ref q_p0_owners, .ref q_p0_namePlaces, .ref q_p0_conditions, .int v_p0_pending, .int v_p0_length, .int v_p0_at, .int v_p0_number]))], [(q_p0_text, .inl (cI, 2000, .inl f_p0_text))], [(q_p0_jobOfLetter, .inl (cI, 26, .inl f_p0_jobOfLetter))], [(q_p0_owners, .inl (cI, 520, .inl f_p0_owners))], [(q_p0_namePlaces, .inl (cI, 520, .inl f_p0_namePlaces))], [(q_p0_conditions, .inl (cI, 520, .inl f_p0_conditions))], [(q_p1, .inr (4, [.ref q_p1_numbers, .ref q_p1_needCounts, .ref q_p1_needed, .ref q_p1_conditions, .ref q_p1_allNeeded, .int v_p1_jobs]))], [(q_p1_numbers, .inl (cM, gro 27 d_p1_numbers))], gl cI d_p1_numbers 27 4 g_p1_numbers]
abbrev rm_Tex_parseJob : Room := { frames := 3, cells := 0, slots := 0, locals := 64 }
set_option maxHeartbeats 4000000 in
set_option maxRecDepth 100000 in
theorem ct_Tex_parseJob (l : Launch) (dC : Nat → ClassId) (dI : Nat → Nat → Nat) (cI cL cM cZ : ClassId) (q_p0 q_p1 q_p0_text q_p0_jobOfLetter q_p0_owners q_p0_namePlaces q_p0_conditions q_p1_numbers q_p1_needCounts q_p1_needed q_p1_conditions q_p1_allNeeded : Nat) (d_p1_numbers : Nat → Nat) (v_p0_pending : Int32) (v_p0_length : Int32) (v_p0_at : Int32) (v_p0_number : Int32) (f_p0_text : Nat → Int32) (f_p0_jobOfLetter : Nat → Int32) (f_p0_owners : Nat → Int32) (f_p0_namePlaces : Nat → Int32) (f_p0_conditions : Nat → Int32) (v_p1_jobs : Int32) (g_p1_numbers : Nat → Nat → Int32) (a2_x : Int32) (N : Nat) (o : Int32 × Int32 × Int32 × Int32 × (Nat → Int32) × (Nat → Int32) × (Nat → Int32) × (Nat → Int32) × Int32 × (Nat → Nat → Int32)) (hm : md_Tex_parseJob N v_p0_pending v_p0_length v_p0_at v_p0_number f_p0_text f_p0_jobOfLetter f_p0_owners f_p0_namePlaces f_p0_conditions v_p1_jobs g_p1_numbers a2_x = some o) : ∀ sz : Nat, Met l y_Tex_parseJob ws_Tex_parseJob rm_Tex_parseJob (cP (dC, dI) vwCl [(cI, .int), (cL, .long), (cM, .array .int), (cZ, .boolean)] [.ref q_p0, .ref q_p1, .int a2_x] sz (sc_Tex_parseJob cI cL cM cZ q_p0 q_p1 q_p0_text q_p0_jobOfLetter q_p0_owners q_p0_namePlaces q_p0_conditions q_p1_numbers q_p1_needCounts q_p1_needed q_p1_conditions q_p1_allNeeded d_p1_numbers v_p0_pending v_p0_length v_p0_at v_p0_number f_p0_text f_p0_jobOfLetter f_p0_owners f_p0_namePlaces f_p0_conditions v_p1_jobs g_p1_numbers)) (cQi (dC, dI) vwCl [(cI, .int), (cL, .long), (cM, .array .int), (cZ, .boolean)] sz (sc_Tex_parseJob cI cL cM cZ q_p0 q_p1 q_p0_text q_p0_jobOfLetter q_p0_owners q_p0_namePlaces q_p0_conditions q_p1_numbers q_p1_needCounts q_p1_needed q_p1_conditions q_p1_allNeeded d_p1_numbers v_p0_pending v_p0_length v_p0_at v_p0_number f_p0_text f_p0_jobOfLetter f_p0_owners f_p0_namePlaces f_p0_conditions v_p1_jobs g_p1_numbers) o.1 (sc_Tex_parseJob cI cL cM cZ q_p0 q_p1 q_p0_text q_p0_jobOfLetter q_p0_owners q_p0_namePlaces q_p0_conditions q_p1_numbers q_p1_needCounts q_p1_needed q_p1_conditions q_p1_allNeeded d_p1_numbers o.2.1 v_p0_length o.2.2.1 o.2.2.2.1 f_p0_text o.2.2.2.2.1 o.2.2.2.2.2.1 o.2.2.2.2.2.2.1 o.2.2.2.2.2.2.2.1 o.2.2.2.2.2.2.2.2.1 o.2.2.2.2.2.2.2.2.2)) 0 0 (va_A ((sc_Tex_parseJob cI cL cM cZ q_p0 q_p1 q_p0_text q_p0_jobOfLetter q_p0_owners q_p0_namePlaces q_p0_conditions q_p1_numbers q_p1_needCounts q_p1_needed q_p1_conditions q_p1_allNeeded d_p1_numbers v_p0_pending v_p0_length v_p0_at v_p0_number f_p0_text f_p0_jobOfLetter f_p0_owners f_p0_namePlaces f_p0_conditions v_p1_jobs g_p1_numbers)).flatten sz) := by
  refine sg_met (fun sz => cQi (dC, dI) vwCl [(cI, .int), (cL, .long), (cM, .array .int), (cZ, .boolean)] sz (sc_Tex_parseJob cI cL cM cZ q_p0 q_p1 q_p0_text q_p0_jobOfLetter q_p0_owners q_p0_namePlaces q_p0_conditions q_p1_numbers q_p1_needCounts q_p1_needed q_p1_conditions q_p1_allNeeded d_p1_numbers v_p0_pending v_p0_length v_p0_at v_p0_number f_p0_text f_p0_jobOfLetter f_p0_owners f_p0_namePlaces f_p0_conditions v_p1_jobs g_p1_numbers) o.1 (sc_Tex_parseJob cI cL cM cZ q_p0 q_p1 q_p0_text q_p0_jobOfLetter q_p0_owners q_p0_namePlaces q_p0_conditions q_p1_numbers q_p1_needCounts q_p1_needed q_p1_conditions q_p1_allNeeded d_p1_numbers o.2.1 v_p0_length o.2.2.1 o.2.2.2.1 f_p0_text o.2.2.2.2.1 o.2.2.2.2.2.1 o.2.2.2.2.2.2.1 o.2.2.2.2.2.2.2.1 o.2.2.2.2.2.2.2.2.1 o.2.2.2.2.2.2.2.2.2)) (by decide) (Nat.le_of_ble_eq_true rfl) ?_
  intro p e s m args below meth c A Q ls hx hb hr hts hown hlocks hml hname hK hNW hA hAe hQ hw hl
  have hl : lv_has ls 5 [(0, .ref q_p0), (1, .ref q_p1), (2, .int a2_x)] := hl
  have hw : wk (dC, dI) vwCl A s.heap [[(q_p0, .inr (7, [.ref q_p0_text, .ref q_p0_jobOfLetter, .ref q_p0_owners, .ref q_p0_namePlaces, .ref q_p0_conditions, .int v_p0_pending, .int v_p0_length, .int v_p0_at, .int v_p0_number]))], [(q_p0_text, .inl (cI, 2000, .inl f_p0_text))], [(q_p0_jobOfLetter, .inl (cI, 26, .inl f_p0_jobOfLetter))], [(q_p0_owners, .inl (cI, 520, .inl f_p0_owners))], [(q_p0_namePlaces, .inl (cI, 520, .inl f_p0_namePlaces))], [(q_p0_conditions, .inl (cI, 520, .inl f_p0_conditions))], [(q_p1, .inr (4, [.ref q_p1_numbers, .ref q_p1_needCounts, .ref q_p1_needed, .ref q_p1_conditions, .ref q_p1_allNeeded, .int v_p1_jobs]))], [(q_p1_numbers, .inl (cM, gro 27 d_p1_numbers))], gl cI d_p1_numbers 27 4 g_p1_numbers] s.heap [] := hw
  unfold md_Tex_parseJob at hm
  refine lv_aload_n hx hb d_Tex_parseJob_0 rfl (lv_at hl 0 rfl) ?_
  obtain ⟨o1, h1, hm⟩ := zc_x hm
  refine sg_ci0 (Sr := [[(q_p0_jobOfLetter, .inl (cI, 26, .inl f_p0_jobOfLetter))], [(q_p0_owners, .inl (cI, 520, .inl f_p0_owners))], [(q_p0_namePlaces, .inl (cI, 520, .inl f_p0_namePlaces))], [(q_p0_conditions, .inl (cI, 520, .inl f_p0_conditions))], [(q_p1, .inr (4, [.ref q_p1_numbers, .ref q_p1_needCounts, .ref q_p1_needed, .ref q_p1_conditions, .ref q_p1_allNeeded, .int v_p1_jobs]))], [(q_p1_numbers, .inl (cM, gro 27 d_p1_numbers))], gl cI d_p1_numbers 27 4 g_p1_numbers]) (va_runV (As := []) (rest := []) ⟨hx, hb, hml, hown, hts⟩ (ct_Tex_letterHere l dC dI cI cL cM cZ q_p0 q_p0_text q_p0_jobOfLetter q_p0_owners q_p0_namePlaces q_p0_conditions v_p0_pending v_p0_length v_p0_at v_p0_number f_p0_text N o1 h1 _) (cwV 0 hts (gd_V wd_282 wd_284 ws_2 wd_3 wd_285) rfl rfl rfl (by decide +kernel) ⟨Nat.le_of_ble_eq_true rfl, Nat.le_of_ble_eq_true rfl⟩) (sg_preV (ci := 7) (q0 := 0) hK hNW hw [0, 1] rfl rfl rfl rfl) rfl rfl hl.1 rfl (lv_room (Nat.le_of_ble_eq_true rfl)) d_Tex_parseJob_1 ⟨Nat.le_of_ble_eq_true rfl, Nat.le_of_ble_eq_true rfl⟩) hw hA [0, 1] [2, 3, 4, 5, 6, 7, 8] rfl rfl rfl (by decide) (fun H locs hw => ?_)
  have hw : wk (dC, dI) vwCl A s.heap [[(q_p0_jobOfLetter, .inl (cI, 26, .inl f_p0_jobOfLetter))], [(q_p0_owners, .inl (cI, 520, .inl f_p0_owners))], [(q_p0_namePlaces, .inl (cI, 520, .inl f_p0_namePlaces))], [(q_p0_conditions, .inl (cI, 520, .inl f_p0_conditions))], [(q_p1, .inr (4, [.ref q_p1_numbers, .ref q_p1_needCounts, .ref q_p1_needed, .ref q_p1_conditions, .ref q_p1_allNeeded, .int v_p1_jobs]))], [(q_p1_numbers, .inl (cM, gro 27 d_p1_numbers))], gl cI d_p1_numbers 27 4 g_p1_numbers, [(q_p0, .inr (7, [.ref q_p0_text, .ref q_p0_jobOfLetter, .ref q_p0_owners, .ref q_p0_namePlaces, .ref q_p0_conditions, .int v_p0_pending, .int v_p0_length, .int v_p0_at, .int v_p0_number]))], [(q_p0_text, .inl (cI, 2000, .inl f_p0_text))]] H locs := hw
  refine lv_istore_n (lv' := [(3, .int o1), (0, .ref q_p0), (1, .ref q_p1), (2, .int a2_x)]) hx hb d_Tex_parseJob_4 rfl hl (by decide) rfl (fun ls hl => ?_)
  refine lv_iload_n hx hb d_Tex_parseJob_5 rfl (lv_at hl 0 rfl) ?_
  refine lv_iconst (v := -1) hx hb d_Tex_parseJob_6 (by decide) ?_
  refine bq_t (lv_icmp_eq (tgt := 19) hx hb d_Tex_parseJob_7 (by decide)) hm (fun hm => ?_) (fun hm => ?_)
  · refine lv_iconst (v := 0) hx hb d_Tex_parseJob_19 (by decide) ?_
    obtain rfl := Option.some.inj hm
    exact sg_zret hx hb hr rfl hlocks hAe hQ hK (hw.sub [7, 8, 0, 1, 2, 3, 4, 5, 6] (by decide) rfl) d_Tex_parseJob_20
  · refine lv_aload_n hx hb d_Tex_parseJob_10 rfl (lv_at hl 1 rfl) ?_
    refine sg_get (D := (dC, dI)) (ci := 7) (v := .ref q_p0_jobOfLetter) (C := "JobNets$TextReader") (T := T_7) (N := 9) hx hb hts hin_7 hown hK hw 7 rfl rfl 1 (by decide) (hts _ wd_57) rfl rfl d_Tex_parseJob_11 ?_
    refine lv_iload_n hx hb d_Tex_parseJob_14 rfl (lv_at hl 0 rfl) ?_
    refine sg_iald hx hb hK hw 0 0 rfl rfl d_Tex_parseJob_15 hm (fun hm => ?_)
    refine bq_t (lv_if_eq (tgt := 21) hx hb d_Tex_parseJob_16 (by decide)) hm (fun hm => ?_) (fun hm => ?_)
    · refine lv_aload_n hx hb d_Tex_parseJob_21 rfl (lv_at hl 1 rfl) ?_
      refine sg_get (D := (dC, dI)) (ci := 7) (v := .ref q_p0_jobOfLetter) (C := "JobNets$TextReader") (T := T_7) (N := 9) hx hb hts hin_7 hown hK hw 7 rfl rfl 1 (by decide) (hts _ wd_57) rfl rfl d_Tex_parseJob_22 ?_
      refine lv_iload_n hx hb d_Tex_parseJob_25 rfl (lv_at hl 0 rfl) ?_
      refine lv_iload_n hx hb d_Tex_parseJob_26 rfl (lv_at hl 3 rfl) ?_
      refine sg_iast (S1 := fun f2 => [[(q_p0_jobOfLetter, .inl (cI, 26, .inl f2))], [(q_p0_owners, .inl (cI, 520, .inl f_p0_owners))], [(q_p0_namePlaces, .inl (cI, 520, .inl f_p0_namePlaces))], [(q_p0_conditions, .inl (cI, 520, .inl f_p0_conditions))], [(q_p1, .inr (4, [.ref q_p1_numbers, .ref q_p1_needCounts, .ref q_p1_needed, .ref q_p1_conditions, .ref q_p1_allNeeded, .int v_p1_jobs]))], [(q_p1_numbers, .inl (cM, gro 27 d_p1_numbers))], gl cI d_p1_numbers 27 4 g_p1_numbers, [(q_p0, .inr (7, [.ref q_p0_text, .ref q_p0_jobOfLetter, .ref q_p0_owners, .ref q_p0_namePlaces, .ref q_p0_conditions, .int v_p0_pending, .int v_p0_length, .int v_p0_at, .int v_p0_number]))], [(q_p0_text, .inl (cI, 2000, .inl f_p0_text))]]) hx hb hK hw 0 0 rfl rfl d_Tex_parseJob_27 (fun _ => rfl) hm (fun f2 H locs hm hw => ?_)
      refine lv_aload_n hx hb d_Tex_parseJob_28 rfl (lv_at hl 2 rfl) ?_
      refine lv_iload_n hx hb d_Tex_parseJob_29 rfl (lv_at hl 3 rfl) ?_
      refine sg_putN (D := (dC, dI)) (ci := 4) (v := .int a2_x) (ty := .int) (C := "JobNets$Net") (T := T_4) (N := 6) (S1 := [[(q_p0_jobOfLetter, .inl (cI, 26, .inl f2))], [(q_p0_owners, .inl (cI, 520, .inl f_p0_owners))], [(q_p0_namePlaces, .inl (cI, 520, .inl f_p0_namePlaces))], [(q_p0_conditions, .inl (cI, 520, .inl f_p0_conditions))], [(q_p1, .inr (4, [.ref q_p1_numbers, .ref q_p1_needCounts, .ref q_p1_needed, .ref q_p1_conditions, .ref q_p1_allNeeded, .int a2_x]))], [(q_p1_numbers, .inl (cM, gro 27 d_p1_numbers))], gl cI d_p1_numbers 27 4 g_p1_numbers, [(q_p0, .inr (7, [.ref q_p0_text, .ref q_p0_jobOfLetter, .ref q_p0_owners, .ref q_p0_namePlaces, .ref q_p0_conditions, .int v_p0_pending, .int v_p0_length, .int v_p0_at, .int v_p0_number]))], [(q_p0_text, .inl (cI, 2000, .inl f_p0_text))]]) hx hb hts hin_4 ty_4 tok_4 nd_4 hown hK hw 4 rfl rfl 5 (by decide) (nF_29 hNW) rfl rfl (by decide +kernel) rfl rfl (Nat.le_of_ble_eq_true rfl) rfl d_Tex_parseJob_30 (fun H locs hw => ?_)
      refine lv_aload_n hx hb d_Tex_parseJob_33 rfl (lv_at hl 1 rfl) ?_
      refine lv_dup hx hb d_Tex_parseJob_34 rfl ?_
      refine sg_get (D := (dC, dI)) (ci := 7) (v := .int v_p0_at) (C := "JobNets$TextReader") (T := T_7) (N := 9) hx hb hts hin_7 hown hK hw 7 rfl rfl 7 (by decide) (hts _ wd_63) rfl rfl d_Tex_parseJob_35 ?_
      refine lv_iconst (v := 1) hx hb d_Tex_parseJob_38 (by decide) ?_
      refine lv_iadd hx hb d_Tex_parseJob_39 ?_
      refine sg_put (D := (dC, dI)) (ci := 7) (v := .int (v_p0_at + (1 : Int32))) (ty := .int) (C := "JobNets$TextReader") (T := T_7) (N := 9) (S1 := [[(q_p0_jobOfLetter, .inl (cI, 26, .inl f2))], [(q_p0_owners, .inl (cI, 520, .inl f_p0_owners))], [(q_p0_namePlaces, .inl (cI, 520, .inl f_p0_namePlaces))], [(q_p0_conditions, .inl (cI, 520, .inl f_p0_conditions))], [(q_p1, .inr (4, [.ref q_p1_numbers, .ref q_p1_needCounts, .ref q_p1_needed, .ref q_p1_conditions, .ref q_p1_allNeeded, .int a2_x]))], [(q_p1_numbers, .inl (cM, gro 27 d_p1_numbers))], gl cI d_p1_numbers 27 4 g_p1_numbers, [(q_p0, .inr (7, [.ref q_p0_text, .ref q_p0_jobOfLetter, .ref q_p0_owners, .ref q_p0_namePlaces, .ref q_p0_conditions, .int v_p0_pending, .int v_p0_length, .int (v_p0_at + (1 : Int32)), .int v_p0_number]))], [(q_p0_text, .inl (cI, 2000, .inl f_p0_text))]]) hx hb hts hin_7 ty_7 tok_7 nd_7 hown hK hw 7 rfl rfl 7 (by decide) (hts _ wd_63) rfl rfl (by decide +kernel) rfl rfl (Nat.le_of_ble_eq_true rfl) rfl d_Tex_parseJob_40 (fun H locs hw => ?_)
      refine lv_iconst (v := 0) hx hb d_Tex_parseJob_43 (by decide) ?_
      refine lv_istore (lv' := [(4, .int (0 : Int32)), (3, .int o1), (0, .ref q_p0), (1, .ref q_p1), (2, .int a2_x)]) hx hb d_Tex_parseJob_44 hl (by decide) rfl (fun ls hl => ?_)
      obtain ⟨Fn46, hFn46, hm⟩ := fx4_x hm
      have L46 : ∀ (n : Nat) (x3 : Int32) (x4 : Int32) (x5 : Int32) (g6 : Nat → Nat → Int32), fx4 Fn46 n x3 x4 x5 g6 = some o → ∀ (H : Heap) (locs : List Loc) (ls : Array Slot), wk (dC, dI) vwCl A s.heap [[(q_p0_jobOfLetter, .inl (cI, 26, .inl f2))], [(q_p0_owners, .inl (cI, 520, .inl f_p0_owners))], [(q_p0_namePlaces, .inl (cI, 520, .inl f_p0_namePlaces))], [(q_p0_conditions, .inl (cI, 520, .inl f_p0_conditions))], [(q_p1, .inr (4, [.ref q_p1_numbers, .ref q_p1_needCounts, .ref q_p1_needed, .ref q_p1_conditions, .ref q_p1_allNeeded, .int a2_x]))], [(q_p1_numbers, .inl (cM, gro 27 d_p1_numbers))], gl cI d_p1_numbers 27 4 g6, [(q_p0, .inr (7, [.ref q_p0_text, .ref q_p0_jobOfLetter, .ref q_p0_owners, .ref q_p0_namePlaces, .ref q_p0_conditions, .int v_p0_pending, .int v_p0_length, .int x4, .int x5]))], [(q_p0_text, .inl (cI, 2000, .inl f_p0_text))]] H locs → lv_has ls 5 [(4, .int x3), (0, .ref q_p0), (1, .ref q_p1), (2, .int a2_x)] → W p l e rm_Tex_parseJob s m args below meth c H locs 0 0 Q (F0 m 46 ls []) := by
        intro n
        induction n with
        | zero => intro x3 x4 x5 g6 hm; exact (fx4_0 hm).elim
        | succ n ih46 =>
          intro x3 x4 x5 g6 hm H locs ls hw hl
          have hm := fx4_s hFn46 hm
          unfold md_Tex_parseJob_F46 at hm
          refine lv_iload hx hb d_Tex_parseJob_46 (lv_at hl 0 rfl) ?_
          refine lv_iconst (v := 4) hx hb d_Tex_parseJob_48 (by decide) ?_
          refine bq_t (lv_icmp_ge (tgt := 84) hx hb d_Tex_parseJob_49 (by decide)) hm (fun hm => ?_) (fun hm => ?_)
          · refine lv_aload_n hx hb d_Tex_parseJob_84 rfl (lv_at hl 1 rfl) ?_
            refine lv_iload_n hx hb d_Tex_parseJob_85 rfl (lv_at hl 3 rfl) ?_
            obtain ⟨o7, h7, hm⟩ := zc_x hm
            refine sg_ci0 (Sr := [[(q_p0_jobOfLetter, .inl (cI, 26, .inl f2))], [(q_p1, .inr (4, [.ref q_p1_numbers, .ref q_p1_needCounts, .ref q_p1_needed, .ref q_p1_conditions, .ref q_p1_allNeeded, .int a2_x]))], [(q_p1_numbers, .inl (cM, gro 27 d_p1_numbers))], gl cI d_p1_numbers 27 4 g6]) (va_runV (As := [.int a2_x]) (rest := []) ⟨hx, hb, hml, hown, hts⟩ (ct_Tex_parseNeeds l dC dI cI cL cM cZ q_p0 q_p0_text q_p0_jobOfLetter q_p0_owners q_p0_namePlaces q_p0_conditions v_p0_pending v_p0_length x4 x5 f_p0_text f_p0_owners f_p0_namePlaces f_p0_conditions a2_x N o7 h7 _) (cwV 1 hts (gd_V wd_290 wd_292 ws_4 wd_3 wd_293) rfl rfl rfl (by decide +kernel) ⟨Nat.le_of_ble_eq_true rfl, Nat.le_of_ble_eq_true rfl⟩) (sg_preV (ci := 7) (q0 := 7) hK hNW hw [7, 8, 1, 2, 3] rfl rfl rfl rfl) rfl rfl hl.1 rfl (lv_room (Nat.le_of_ble_eq_true rfl)) d_Tex_parseJob_86 ⟨Nat.le_of_ble_eq_true rfl, Nat.le_of_ble_eq_true rfl⟩) hw hA [7, 8, 1, 2, 3] [0, 4, 5, 6] rfl rfl rfl (by decide) (fun H locs hw => ?_)
            have hw : wk (dC, dI) vwCl A s.heap [[(q_p0_jobOfLetter, .inl (cI, 26, .inl f2))], [(q_p1, .inr (4, [.ref q_p1_numbers, .ref q_p1_needCounts, .ref q_p1_needed, .ref q_p1_conditions, .ref q_p1_allNeeded, .int a2_x]))], [(q_p1_numbers, .inl (cM, gro 27 d_p1_numbers))], gl cI d_p1_numbers 27 4 g6, [(q_p0, .inr (7, [.ref q_p0_text, .ref q_p0_jobOfLetter, .ref q_p0_owners, .ref q_p0_namePlaces, .ref q_p0_conditions, .int o7.2.1, .int v_p0_length, .int o7.2.2.1, .int x5]))], [(q_p0_text, .inl (cI, 2000, .inl f_p0_text))], [(q_p0_owners, .inl (cI, 520, .inl o7.2.2.2.1))], [(q_p0_namePlaces, .inl (cI, 520, .inl o7.2.2.2.2.1))], [(q_p0_conditions, .inl (cI, 520, .inl o7.2.2.2.2.2))]] H locs := hw
            obtain ⟨hz, hm⟩ := it_n hm
            obtain rfl := Option.some.inj hm
            exact sg_zret hx hb hr (zb_n hz) hlocks hAe hQ hK (hw.sub [4, 5, 0, 6, 7, 8, 1, 2, 3] (by decide) rfl) d_Tex_parseJob_89
          · refine lv_aload_n hx hb d_Tex_parseJob_52 rfl (lv_at hl 1 rfl) ?_
            obtain ⟨o8, h8, hm⟩ := zc_x hm
            refine sg_cv0 (Sr := [[(q_p0_jobOfLetter, .inl (cI, 26, .inl f2))], [(q_p0_owners, .inl (cI, 520, .inl f_p0_owners))], [(q_p0_namePlaces, .inl (cI, 520, .inl f_p0_namePlaces))], [(q_p0_conditions, .inl (cI, 520, .inl f_p0_conditions))], [(q_p1, .inr (4, [.ref q_p1_numbers, .ref q_p1_needCounts, .ref q_p1_needed, .ref q_p1_conditions, .ref q_p1_allNeeded, .int a2_x]))], [(q_p1_numbers, .inl (cM, gro 27 d_p1_numbers))], gl cI d_p1_numbers 27 4 g6]) (va_runV (As := []) (rest := []) ⟨hx, hb, hml, hown, hts⟩ (ct_Tex_skipBlanks l dC dI cI cL cM cZ q_p0 q_p0_text q_p0_jobOfLetter q_p0_owners q_p0_namePlaces q_p0_conditions v_p0_pending v_p0_length x4 x5 f_p0_text N o8 h8 _) (cwV 0 hts (gd_V wd_274 wd_276 ws_0 wd_3 wd_277) rfl rfl rfl (by decide +kernel) ⟨Nat.le_of_ble_eq_true rfl, Nat.le_of_ble_eq_true rfl⟩) (sg_preV (ci := 7) (q0 := 7) hK hNW hw [7, 8] rfl rfl rfl rfl) rfl rfl hl.1 rfl (lv_room (Nat.le_of_ble_eq_true rfl)) d_Tex_parseJob_53 ⟨Nat.le_of_ble_eq_true rfl, Nat.le_of_ble_eq_true rfl⟩) hw hA [7, 8] [0, 1, 2, 3, 4, 5, 6] rfl rfl rfl (by decide) (fun H locs hw => ?_)
            have hw : wk (dC, dI) vwCl A s.heap [[(q_p0_jobOfLetter, .inl (cI, 26, .inl f2))], [(q_p0_owners, .inl (cI, 520, .inl f_p0_owners))], [(q_p0_namePlaces, .inl (cI, 520, .inl f_p0_namePlaces))], [(q_p0_conditions, .inl (cI, 520, .inl f_p0_conditions))], [(q_p1, .inr (4, [.ref q_p1_numbers, .ref q_p1_needCounts, .ref q_p1_needed, .ref q_p1_conditions, .ref q_p1_allNeeded, .int a2_x]))], [(q_p1_numbers, .inl (cM, gro 27 d_p1_numbers))], gl cI d_p1_numbers 27 4 g6, [(q_p0, .inr (7, [.ref q_p0_text, .ref q_p0_jobOfLetter, .ref q_p0_owners, .ref q_p0_namePlaces, .ref q_p0_conditions, .int v_p0_pending, .int v_p0_length, .int o8, .int x5]))], [(q_p0_text, .inl (cI, 2000, .inl f_p0_text))]] H locs := hw
            refine lv_aload_n hx hb d_Tex_parseJob_56 rfl (lv_at hl 1 rfl) ?_
            obtain ⟨o9, h9, hm⟩ := zc_x hm
            refine sg_ci0 (Sr := [[(q_p0_jobOfLetter, .inl (cI, 26, .inl f2))], [(q_p0_owners, .inl (cI, 520, .inl f_p0_owners))], [(q_p0_namePlaces, .inl (cI, 520, .inl f_p0_namePlaces))], [(q_p0_conditions, .inl (cI, 520, .inl f_p0_conditions))], [(q_p1, .inr (4, [.ref q_p1_numbers, .ref q_p1_needCounts, .ref q_p1_needed, .ref q_p1_conditions, .ref q_p1_allNeeded, .int a2_x]))], [(q_p1_numbers, .inl (cM, gro 27 d_p1_numbers))], gl cI d_p1_numbers 27 4 g6]) (va_runV (As := []) (rest := []) ⟨hx, hb, hml, hown, hts⟩ (ct_Tex_parseNumber l dC dI cI cL cM cZ q_p0 q_p0_text q_p0_jobOfLetter q_p0_owners q_p0_namePlaces q_p0_conditions v_p0_pending v_p0_length o8 x5 f_p0_text N o9 h9 _) (cwV 0 hts (gd_V wd_286 wd_288 ws_3 wd_3 wd_289) rfl rfl rfl (by decide +kernel) ⟨Nat.le_of_ble_eq_true rfl, Nat.le_of_ble_eq_true rfl⟩) (sg_preV (ci := 7) (q0 := 7) hK hNW hw [7, 8] rfl rfl rfl rfl) rfl rfl hl.1 rfl (lv_room (Nat.le_of_ble_eq_true rfl)) d_Tex_parseJob_57 ⟨Nat.le_of_ble_eq_true rfl, Nat.le_of_ble_eq_true rfl⟩) hw hA [7, 8] [0, 1, 2, 3, 4, 5, 6] rfl rfl rfl (by decide) (fun H locs hw => ?_)
            have hw : wk (dC, dI) vwCl A s.heap [[(q_p0_jobOfLetter, .inl (cI, 26, .inl f2))], [(q_p0_owners, .inl (cI, 520, .inl f_p0_owners))], [(q_p0_namePlaces, .inl (cI, 520, .inl f_p0_namePlaces))], [(q_p0_conditions, .inl (cI, 520, .inl f_p0_conditions))], [(q_p1, .inr (4, [.ref q_p1_numbers, .ref q_p1_needCounts, .ref q_p1_needed, .ref q_p1_conditions, .ref q_p1_allNeeded, .int a2_x]))], [(q_p1_numbers, .inl (cM, gro 27 d_p1_numbers))], gl cI d_p1_numbers 27 4 g6, [(q_p0, .inr (7, [.ref q_p0_text, .ref q_p0_jobOfLetter, .ref q_p0_owners, .ref q_p0_namePlaces, .ref q_p0_conditions, .int v_p0_pending, .int v_p0_length, .int o9.2.1, .int o9.2.2]))], [(q_p0_text, .inl (cI, 2000, .inl f_p0_text))]] H locs := hw
            refine bq_n (lv_if_ne (tgt := 65) hx hb d_Tex_parseJob_60 (by decide)) hm (fun hm => ?_) (fun hm => ?_)
            · refine lv_aload_n hx hb d_Tex_parseJob_65 rfl (lv_at hl 2 rfl) ?_
              refine sg_getN (D := (dC, dI)) (ci := 4) (v := .ref q_p1_numbers) (C := "JobNets$Net") (T := T_4) (N := 6) hx hb hts hin_4 hown hK hw 4 rfl rfl 0 (by decide) (nF_14 hNW) rfl rfl d_Tex_parseJob_66 ?_
              refine lv_iload_n hx hb d_Tex_parseJob_69 rfl (lv_at hl 3 rfl) ?_
              obtain ⟨hi10, hm⟩ := it_n hm
              refine sg_aald hx hb hK hw 5 2 rfl rfl hi10 d_Tex_parseJob_70 ?_
              refine lv_iload hx hb d_Tex_parseJob_71 (lv_at hl 0 rfl) ?_
              refine lv_aload_n hx hb d_Tex_parseJob_73 rfl (lv_at hl 1 rfl) ?_
              refine sg_get (D := (dC, dI)) (ci := 7) (v := .int o9.2.2) (C := "JobNets$TextReader") (T := T_7) (N := 9) hx hb hts hin_7 hown hK hw 7 rfl rfl 8 (by decide) (hts _ wd_64) rfl rfl d_Tex_parseJob_74 ?_
              refine sg_rast (S1 := fun g11 => [[(q_p0_jobOfLetter, .inl (cI, 26, .inl f2))], [(q_p0_owners, .inl (cI, 520, .inl f_p0_owners))], [(q_p0_namePlaces, .inl (cI, 520, .inl f_p0_namePlaces))], [(q_p0_conditions, .inl (cI, 520, .inl f_p0_conditions))], [(q_p1, .inr (4, [.ref q_p1_numbers, .ref q_p1_needCounts, .ref q_p1_needed, .ref q_p1_conditions, .ref q_p1_allNeeded, .int a2_x]))], [(q_p1_numbers, .inl (cM, gro 27 d_p1_numbers))], gl cI d_p1_numbers 27 4 g11, [(q_p0, .inr (7, [.ref q_p0_text, .ref q_p0_jobOfLetter, .ref q_p0_owners, .ref q_p0_namePlaces, .ref q_p0_conditions, .int v_p0_pending, .int v_p0_length, .int o9.2.1, .int o9.2.2]))], [(q_p0_text, .inl (cI, 2000, .inl f_p0_text))]]) hx hb hK hw 6 0 rfl (sg_lt hi10) rfl d_Tex_parseJob_77 (fun _ => rfl) hm (fun g11 H locs hm hw => ?_)
              refine lv_iinc (v := x3 + 1) (lv' := [(4, .int (x3 + 1)), (0, .ref q_p0), (1, .ref q_p1), (2, .int a2_x)]) hx hb d_Tex_parseJob_78 hl (k := 0) rfl rfl (by decide) rfl (fun ls hl => ?_)
              refine lv_goto (tgt := 46) hx hb d_Tex_parseJob_81 (by decide) ?_
              exact ih46 (x3 + 1) o9.2.1 o9.2.2 g11 hm _ _ _ hw hl
            · refine lv_iconst (v := 0) hx hb d_Tex_parseJob_63 (by decide) ?_
              obtain rfl := Option.some.inj hm
              exact sg_zret hx hb hr rfl hlocks hAe hQ hK (hw.sub [7, 8, 0, 1, 2, 3, 4, 5, 6] (by decide) rfl) d_Tex_parseJob_64
      exact L46 _ _ _ _ _ hm _ _ _ hw (lv_sub hl [0, 2, 3, 4] rfl)
    · refine lv_iconst (v := 0) hx hb d_Tex_parseJob_19 (by decide) ?_
      obtain rfl := Option.some.inj hm
      exact sg_zret hx hb hr rfl hlocks hAe hQ hK (hw.sub [7, 8, 0, 1, 2, 3, 4, 5, 6] (by decide) rfl) d_Tex_parseJob_20
