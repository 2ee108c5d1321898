theorem d_Pla_make_0 : decode prog_6_method_3_code 0 = .ok (.aload_n 0, 1) := by decide +kernel
theorem d_Pla_make_1 : decode prog_6_method_3_code 1 = .ok (.invokevirtual 37, 3) := by decide +kernel
theorem d_Pla_make_4 : decode prog_6_method_3_code 4 = .ok (.aload_n 0, 1) := by decide +kernel
theorem d_Pla_make_5 : decode prog_6_method_3_code 5 = .ok (.iconst 0, 1) := by decide +kernel
theorem d_Pla_make_6 : decode prog_6_method_3_code 6 = .ok (.putfield 28, 3) := by decide +kernel
theorem d_Pla_make_9 : decode prog_6_method_3_code 9 = .ok (.iconst 1, 1) := by decide +kernel
theorem d_Pla_make_10 : decode prog_6_method_3_code 10 = .ok (.istore 4, 2) := by decide +kernel
theorem d_Pla_make_12 : decode prog_6_method_3_code 12 = .ok (.iload 4, 2) := by decide +kernel
theorem d_Pla_make_14 : decode prog_6_method_3_code 14 = .ok (.aload_n 1, 1) := by decide +kernel
theorem d_Pla_make_15 : decode prog_6_method_3_code 15 = .ok (.getfield 40, 3) := by decide +kernel
theorem d_Pla_make_18 : decode prog_6_method_3_code 18 = .ok (.if_icmp .gt 34, 3) := by decide +kernel
theorem d_Pla_make_21 : decode prog_6_method_3_code 21 = .ok (.aload_n 2, 1) := by decide +kernel
theorem d_Pla_make_22 : decode prog_6_method_3_code 22 = .ok (.aload_n 1, 1) := by decide +kernel
theorem d_Pla_make_23 : decode prog_6_method_3_code 23 = .ok (.getfield 45, 3) := by decide +kernel
theorem d_Pla_make_26 : decode prog_6_method_3_code 26 = .ok (.iload 4, 2) := by decide +kernel
theorem d_Pla_make_28 : decode prog_6_method_3_code 28 = .ok (.aaload, 1) := by decide +kernel
theorem d_Pla_make_29 : decode prog_6_method_3_code 29 = .ok (.iconst 0, 1) := by decide +kernel
theorem d_Pla_make_30 : decode prog_6_method_3_code 30 = .ok (.iaload, 1) := by decide +kernel
theorem d_Pla_make_31 : decode prog_6_method_3_code 31 = .ok (.iload_n 3, 1) := by decide +kernel
theorem d_Pla_make_32 : decode prog_6_method_3_code 32 = .ok (.invokevirtual 49, 3) := by decide +kernel
theorem d_Pla_make_35 : decode prog_6_method_3_code 35 = .ok (.ifCond .eq 11, 3) := by decide +kernel
theorem d_Pla_make_38 : decode prog_6_method_3_code 38 = .ok (.aload_n 0, 1) := by decide +kernel
theorem d_Pla_make_39 : decode prog_6_method_3_code 39 = .ok (.getfield 9, 3) := by decide +kernel
theorem d_Pla_make_42 : decode prog_6_method_3_code 42 = .ok (.iload 4, 2) := by decide +kernel
theorem d_Pla_make_44 : decode prog_6_method_3_code 44 = .ok (.iconst 1, 1) := by decide +kernel
theorem d_Pla_make_45 : decode prog_6_method_3_code 45 = .ok (.iastore, 1) := by decide +kernel
theorem d_Pla_make_46 : decode prog_6_method_3_code 46 = .ok (.iinc 4 1, 3) := by decide +kernel
theorem d_Pla_make_49 : decode prog_6_method_3_code 49 = .ok (.goto (-37), 3) := by decide +kernel
theorem d_Pla_make_52 : decode prog_6_method_3_code 52 = .ok (.return_, 1) := by decide +kernel
def md_Pla_make_F12 (v_p1_jobs : Int32) (g_p1_numbers : Nat → Nat → Int32) (v_p2_made : Int32) (v_p2_holidayCount : Int32) (f_p2_rules : Nat → Int32) (f_p2_places : Nat → Int32) (f_p2_holidays : Nat → Int32) (a3_x : Int32) (N : Nat) (o1 : Int32 × (Nat → Int32)) (rec12 : Int32 → (Nat → Int32) → Option (Int32 × Int32 × (Nat → Int32))) (x2 : Int32) (f3 : Nat → Int32) : Option (Int32 × Int32 × (Nat → Int32)) :=
  (if v_p1_jobs < x2 then (some (o1.1, (0 : Int32), f3)) else (if sg_in x2 27 = true then (if sg_in (0 : Int32) 4 = true then (zc (md_Cal_hasDay N v_p2_made v_p2_holidayCount f_p2_rules f_p2_places f_p2_holidays (g_p1_numbers x2.toNatClampNeg (0 : Int32).toNatClampNeg) a3_x) (fun o5 => (if o5 = 0 then (rec12 (x2 + 1) f3) else (if sg_in x2 27 = true then zl (upd f3 x2.toNatClampNeg (1 : Int32)) (fun f6 => (rec12 (x2 + 1) f6)) else none)))) else none) else none))
def md_Pla_make (N : Nat) (v_p0_starts : Int32) (v_p0_time : Int32) (f_p0_states : Nat → Int32) (v_p1_jobs : Int32) (g_p1_numbers : Nat → Nat → Int32) (v_p2_made : Int32) (v_p2_holidayCount : Int32) (f_p2_rules : Nat → Int32) (f_p2_places : Nat → Int32) (f_p2_holidays : Nat → Int32) (a3_x : Int32) : Option (Int32 × Int32 × (Nat → Int32)) :=
  (zc (md_Pla_drop N v_p0_starts f_p0_states) (fun o1 => (fx2 (md_Pla_make_F12 v_p1_jobs g_p1_numbers v_p2_made v_p2_holidayCount f_p2_rules f_p2_places f_p2_holidays a3_x N o1) N (1 : Int32) o1.2)))
abbrev sc_Pla_make (cI cL cM cZ : ClassId) (q_p0 q_p1 q_p2 q_p0_states q_p0_startTimes q_p0_loggedJobs q_p0_loggedTimes q_p1_numbers q_p1_needCounts q_p1_needed q_p1_conditions q_p1_allNeeded q_p2_rules q_p2_places q_p2_holidays : Nat) (d_p1_numbers : Nat → Nat) (v_p0_starts : Int32) (v_p0_time : Int32) (f_p0_states : Nat → Int32) (v_p1_jobs : Int32) (g_p1_numbers : Nat → Nat → Int32) (v_p2_made : Int32) (v_p2_holidayCount : Int32) (f_p2_rules : Nat → Int32) (f_p2_places : Nat → Int32) (f_p2_holidays : Nat → Int32) : List va_W := [[(q_p0, .inr (5, [.ref q_p0_states, .ref q_p0_startTimes, .ref q_p0_loggedJobs, .ref q_p0_loggedTimes, .int v_p0_starts, .int v_p0_time]))], [(q_p0_states, .inl (cI, 27, .inl f_p0_states))], [(q_p1, .inr (4, [.ref q_p1_numbers, .ref q_p1_needCounts, .ref q_p1_needed, .ref q_p1_conditions, .ref q_p1_allNeeded, .int v_p1_jobs]))], [(q_p1_numbers, .inl (cM, gro 27 d_p1_numbers))], gl cI d_p1_numbers 27 4 g_p1_numbers, [(q_p2, .inr (1, [.ref q_p2_rules, .ref q_p2_places, .ref q_p2_holidays, .int v_p2_made, .int v_p2_holidayCount]))], [(q_p2_rules, .inl (cI, 20, .inl f_p2_rules))], [(q_p2_places, .inl (cI, 20, .inl f_p2_places))], [(q_p2_holidays, .inl (cI, 100, .inl f_p2_holidays))]]
abbrev rm_Pla_make : Room := { frames := 3, cells := 0, slots := 0, locals := 68 }
set_option maxHeartbeats 4000000 in
set_option maxRecDepth 100000 in
theorem ct_Pla_make (l : Launch) (dC : Nat → ClassId) (dI : Nat → Nat → Nat) (cI cL cM cZ : ClassId) (q_p0 q_p1 q_p2 q_p0_states q_p0_startTimes q_p0_loggedJobs q_p0_loggedTimes q_p1_numbers q_p1_needCounts q_p1_needed q_p1_conditions q_p1_allNeeded q_p2_rules q_p2_places q_p2_holidays : Nat) (d_p1_numbers : Nat → Nat) (v_p0_starts : Int32) (v_p0_time : Int32) (f_p0_states : Nat → Int32) (v_p1_jobs : Int32) (g_p1_numbers : Nat → Nat → Int32) (v_p2_made : Int32) (v_p2_holidayCount : Int32) (f_p2_rules : Nat → Int32) (f_p2_places : Nat → Int32) (f_p2_holidays : Nat → Int32) (a3_x : Int32) (N : Nat) (o : Int32 × Int32 × (Nat → Int32)) (hm : md_Pla_make N v_p0_starts v_p0_time f_p0_states v_p1_jobs g_p1_numbers v_p2_made v_p2_holidayCount f_p2_rules f_p2_places f_p2_holidays a3_x = some o) : ∀ sz : Nat, Met l y_Pla_make ws_Pla_make rm_Pla_make (cP (dC, dI) vwCl [(cI, .int), (cL, .long), (cM, .array .int), (cZ, .boolean)] [.ref q_p0, .ref q_p1, .ref q_p2, .int a3_x] sz (sc_Pla_make cI cL cM cZ q_p0 q_p1 q_p2 q_p0_states q_p0_startTimes q_p0_loggedJobs q_p0_loggedTimes q_p1_numbers q_p1_needCounts q_p1_needed q_p1_conditions q_p1_allNeeded q_p2_rules q_p2_places q_p2_holidays d_p1_numbers v_p0_starts v_p0_time f_p0_states v_p1_jobs g_p1_numbers v_p2_made v_p2_holidayCount f_p2_rules f_p2_places f_p2_holidays)) (cQv (dC, dI) vwCl [(cI, .int), (cL, .long), (cM, .array .int), (cZ, .boolean)] sz (sc_Pla_make cI cL cM cZ q_p0 q_p1 q_p2 q_p0_states q_p0_startTimes q_p0_loggedJobs q_p0_loggedTimes q_p1_numbers q_p1_needCounts q_p1_needed q_p1_conditions q_p1_allNeeded q_p2_rules q_p2_places q_p2_holidays d_p1_numbers v_p0_starts v_p0_time f_p0_states v_p1_jobs g_p1_numbers v_p2_made v_p2_holidayCount f_p2_rules f_p2_places f_p2_holidays) (sc_Pla_make cI cL cM cZ q_p0 q_p1 q_p2 q_p0_states q_p0_startTimes q_p0_loggedJobs q_p0_loggedTimes q_p1_numbers q_p1_needCounts q_p1_needed q_p1_conditions q_p1_allNeeded q_p2_rules q_p2_places q_p2_holidays d_p1_numbers o.1 o.2.1 o.2.2 v_p1_jobs g_p1_numbers v_p2_made v_p2_holidayCount f_p2_rules f_p2_places f_p2_holidays)) 0 0 (va_A ((sc_Pla_make cI cL cM cZ q_p0 q_p1 q_p2 q_p0_states q_p0_startTimes q_p0_loggedJobs q_p0_loggedTimes q_p1_numbers q_p1_needCounts q_p1_needed q_p1_conditions q_p1_allNeeded q_p2_rules q_p2_places q_p2_holidays d_p1_numbers v_p0_starts v_p0_time f_p0_states v_p1_jobs g_p1_numbers v_p2_made v_p2_holidayCount f_p2_rules f_p2_places f_p2_holidays)).flatten sz) := by
  refine sg_met (fun sz => cQv (dC, dI) vwCl [(cI, .int), (cL, .long), (cM, .array .int), (cZ, .boolean)] sz (sc_Pla_make cI cL cM cZ q_p0 q_p1 q_p2 q_p0_states q_p0_startTimes q_p0_loggedJobs q_p0_loggedTimes q_p1_numbers q_p1_needCounts q_p1_needed q_p1_conditions q_p1_allNeeded q_p2_rules q_p2_places q_p2_holidays d_p1_numbers v_p0_starts v_p0_time f_p0_states v_p1_jobs g_p1_numbers v_p2_made v_p2_holidayCount f_p2_rules f_p2_places f_p2_holidays) (sc_Pla_make cI cL cM cZ q_p0 q_p1 q_p2 q_p0_states q_p0_startTimes q_p0_loggedJobs q_p0_loggedTimes q_p1_numbers q_p1_needCounts q_p1_needed q_p1_conditions q_p1_allNeeded q_p2_rules q_p2_places q_p2_holidays d_p1_numbers o.1 o.2.1 o.2.2 v_p1_jobs g_p1_numbers v_p2_made v_p2_holidayCount f_p2_rules f_p2_places f_p2_holidays)) (by decide) (Nat.le_of_ble_eq_true rfl) ?_
  intro p e s m args below meth c A Q ls hx hb hr hts hown hlocks hml hname hK hNW hA hAe hQ hw hl
  have hl : lv_has ls 5 [(0, .ref q_p0), (1, .ref q_p1), (2, .ref q_p2), (3, .int a3_x)] := hl
  have hw : wk (dC, dI) vwCl A s.heap [[(q_p0, .inr (5, [.ref q_p0_states, .ref q_p0_startTimes, .ref q_p0_loggedJobs, .ref q_p0_loggedTimes, .int v_p0_starts, .int v_p0_time]))], [(q_p0_states, .inl (cI, 27, .inl f_p0_states))], [(q_p1, .inr (4, [.ref q_p1_numbers, .ref q_p1_needCounts, .ref q_p1_needed, .ref q_p1_conditions, .ref q_p1_allNeeded, .int v_p1_jobs]))], [(q_p1_numbers, .inl (cM, gro 27 d_p1_numbers))], gl cI d_p1_numbers 27 4 g_p1_numbers, [(q_p2, .inr (1, [.ref q_p2_rules, .ref q_p2_places, .ref q_p2_holidays, .int v_p2_made, .int v_p2_holidayCount]))], [(q_p2_rules, .inl (cI, 20, .inl f_p2_rules))], [(q_p2_places, .inl (cI, 20, .inl f_p2_places))], [(q_p2_holidays, .inl (cI, 100, .inl f_p2_holidays))]] s.heap [] := hw
  unfold md_Pla_make at hm
  refine lv_aload_n hx hb d_Pla_make_0 rfl (lv_at hl 0 rfl) ?_
  obtain ⟨o1, h1, hm⟩ := zc_x hm
  refine sg_cv0 (Sr := [[(q_p1, .inr (4, [.ref q_p1_numbers, .ref q_p1_needCounts, .ref q_p1_needed, .ref q_p1_conditions, .ref q_p1_allNeeded, .int v_p1_jobs]))], [(q_p1_numbers, .inl (cM, gro 27 d_p1_numbers))], gl cI d_p1_numbers 27 4 g_p1_numbers, [(q_p2, .inr (1, [.ref q_p2_rules, .ref q_p2_places, .ref q_p2_holidays, .int v_p2_made, .int v_p2_holidayCount]))], [(q_p2_rules, .inl (cI, 20, .inl f_p2_rules))], [(q_p2_places, .inl (cI, 20, .inl f_p2_places))], [(q_p2_holidays, .inl (cI, 100, .inl f_p2_holidays))]]) (va_runV (As := []) (rest := []) ⟨hx, hb, hml, hown, hts⟩ (ct_Pla_drop l dC dI cI cL cM cZ q_p0 q_p0_states q_p0_startTimes q_p0_loggedJobs q_p0_loggedTimes v_p0_starts v_p0_time f_p0_states N o1 h1 _) (cwV 0 hts (gd_V wd_426 wd_344 wd_345 wd_4 wd_346) rfl rfl rfl (by decide +kernel) ⟨Nat.le_of_ble_eq_true rfl, Nat.le_of_ble_eq_true rfl⟩) (sg_preV (ci := 5) (q0 := 0) hK hNW hw [0, 1] rfl rfl rfl rfl) rfl rfl hl.1 rfl (lv_room (Nat.le_of_ble_eq_true rfl)) d_Pla_make_1 ⟨Nat.le_of_ble_eq_true rfl, Nat.le_of_ble_eq_true rfl⟩) hw hA [0, 1] [2, 3, 4, 5, 6, 7, 8] rfl rfl rfl (by decide) (fun H locs hw => ?_)
  have hw : wk (dC, dI) vwCl A s.heap [[(q_p1, .inr (4, [.ref q_p1_numbers, .ref q_p1_needCounts, .ref q_p1_needed, .ref q_p1_conditions, .ref q_p1_allNeeded, .int v_p1_jobs]))], [(q_p1_numbers, .inl (cM, gro 27 d_p1_numbers))], gl cI d_p1_numbers 27 4 g_p1_numbers, [(q_p2, .inr (1, [.ref q_p2_rules, .ref q_p2_places, .ref q_p2_holidays, .int v_p2_made, .int v_p2_holidayCount]))], [(q_p2_rules, .inl (cI, 20, .inl f_p2_rules))], [(q_p2_places, .inl (cI, 20, .inl f_p2_places))], [(q_p2_holidays, .inl (cI, 100, .inl f_p2_holidays))], [(q_p0, .inr (5, [.ref q_p0_states, .ref q_p0_startTimes, .ref q_p0_loggedJobs, .ref q_p0_loggedTimes, .int o1.1, .int v_p0_time]))], [(q_p0_states, .inl (cI, 27, .inl o1.2))]] H locs := hw
  refine lv_aload_n hx hb d_Pla_make_4 rfl (lv_at hl 0 rfl) ?_
  refine lv_iconst (v := 0) hx hb d_Pla_make_5 (by decide) ?_
  refine sg_put (D := (dC, dI)) (ci := 5) (v := .int (0 : Int32)) (ty := .int) (C := "JobNets$Plan") (T := T_5) (N := 6) (S1 := [[(q_p1, .inr (4, [.ref q_p1_numbers, .ref q_p1_needCounts, .ref q_p1_needed, .ref q_p1_conditions, .ref q_p1_allNeeded, .int v_p1_jobs]))], [(q_p1_numbers, .inl (cM, gro 27 d_p1_numbers))], gl cI d_p1_numbers 27 4 g_p1_numbers, [(q_p2, .inr (1, [.ref q_p2_rules, .ref q_p2_places, .ref q_p2_holidays, .int v_p2_made, .int v_p2_holidayCount]))], [(q_p2_rules, .inl (cI, 20, .inl f_p2_rules))], [(q_p2_places, .inl (cI, 20, .inl f_p2_places))], [(q_p2_holidays, .inl (cI, 100, .inl f_p2_holidays))], [(q_p0, .inr (5, [.ref q_p0_states, .ref q_p0_startTimes, .ref q_p0_loggedJobs, .ref q_p0_loggedTimes, .int o1.1, .int (0 : Int32)]))], [(q_p0_states, .inl (cI, 27, .inl o1.2))]]) hx hb hts hin_5 ty_5 tok_5 nd_5 hown hK hw 7 rfl rfl 5 (by decide) (hts _ wd_100) rfl rfl (by decide +kernel) rfl rfl (Nat.le_of_ble_eq_true rfl) rfl d_Pla_make_6 (fun H locs hw => ?_)
  refine lv_iconst (v := 1) hx hb d_Pla_make_9 (by decide) ?_
  refine lv_istore (lv' := [(4, .int (1 : Int32)), (0, .ref q_p0), (1, .ref q_p1), (2, .ref q_p2), (3, .int a3_x)]) hx hb d_Pla_make_10 hl (by decide) rfl (fun ls hl => ?_)
  obtain ⟨Fn12, hFn12, hm⟩ := fx2_x hm
  have L12 : ∀ (n : Nat) (x2 : Int32) (f3 : Nat → Int32), fx2 Fn12 n x2 f3 = some o → ∀ (H : Heap) (locs : List Loc) (ls : Array Slot), wk (dC, dI) vwCl A s.heap [[(q_p1, .inr (4, [.ref q_p1_numbers, .ref q_p1_needCounts, .ref q_p1_needed, .ref q_p1_conditions, .ref q_p1_allNeeded, .int v_p1_jobs]))], [(q_p1_numbers, .inl (cM, gro 27 d_p1_numbers))], gl cI d_p1_numbers 27 4 g_p1_numbers, [(q_p2, .inr (1, [.ref q_p2_rules, .ref q_p2_places, .ref q_p2_holidays, .int v_p2_made, .int v_p2_holidayCount]))], [(q_p2_rules, .inl (cI, 20, .inl f_p2_rules))], [(q_p2_places, .inl (cI, 20, .inl f_p2_places))], [(q_p2_holidays, .inl (cI, 100, .inl f_p2_holidays))], [(q_p0, .inr (5, [.ref q_p0_states, .ref q_p0_startTimes, .ref q_p0_loggedJobs, .ref q_p0_loggedTimes, .int o1.1, .int (0 : Int32)]))], [(q_p0_states, .inl (cI, 27, .inl f3))]] H locs → lv_has ls 5 [(4, .int x2), (0, .ref q_p0), (1, .ref q_p1), (2, .ref q_p2), (3, .int a3_x)] → W p l e rm_Pla_make s m args below meth c H locs 0 0 Q (F0 m 12 ls []) := by
    intro n
    induction n with
    | zero => intro x2 f3 hm; exact (fx2_0 hm).elim
    | succ n ih12 =>
      intro x2 f3 hm H locs ls hw hl
      have hm := fx2_s hFn12 hm
      unfold md_Pla_make_F12 at hm
      refine lv_iload hx hb d_Pla_make_12 (lv_at hl 0 rfl) ?_
      refine lv_aload_n hx hb d_Pla_make_14 rfl (lv_at hl 2 rfl) ?_
      refine sg_getN (D := (dC, dI)) (ci := 4) (v := .int v_p1_jobs) (C := "JobNets$Net") (T := T_4) (N := 6) hx hb hts hin_4 hown hK hw 0 rfl rfl 5 (by decide) (nF_27 hNW) rfl rfl d_Pla_make_15 ?_
      refine bq_t (lv_icmp_gt (tgt := 52) hx hb d_Pla_make_18 (by decide)) hm (fun hm => ?_) (fun hm => ?_)
      · exact so_vret (Sf := fun z_ => sc_Pla_make cI cL cM cZ q_p0 q_p1 q_p2 q_p0_states q_p0_startTimes q_p0_loggedJobs q_p0_loggedTimes q_p1_numbers q_p1_needCounts q_p1_needed q_p1_conditions q_p1_allNeeded q_p2_rules q_p2_places q_p2_holidays d_p1_numbers z_.1 z_.2.1 z_.2.2 v_p1_jobs g_p1_numbers v_p2_made v_p2_holidayCount f_p2_rules f_p2_places f_p2_holidays) hm hx hb hr hlocks hAe hQ hK (hw.sub [7, 8, 0, 1, 2, 3, 4, 5, 6] (by decide) rfl) d_Pla_make_52
      · refine lv_aload_n hx hb d_Pla_make_21 rfl (lv_at hl 3 rfl) ?_
        refine lv_aload_n hx hb d_Pla_make_22 rfl (lv_at hl 2 rfl) ?_
        refine sg_getN (D := (dC, dI)) (ci := 4) (v := .ref q_p1_numbers) (C := "JobNets$Net") (T := T_4) (N := 6) hx hb hts hin_4 hown hK hw 0 rfl rfl 0 (by decide) (nF_12 hNW) rfl rfl d_Pla_make_23 ?_
        refine lv_iload hx hb d_Pla_make_26 (lv_at hl 0 rfl) ?_
        obtain ⟨hi4, hm⟩ := it_n hm
        refine sg_aald hx hb hK hw 1 2 rfl rfl hi4 d_Pla_make_28 ?_
        refine lv_iconst (v := 0) hx hb d_Pla_make_29 (by decide) ?_
        refine sg_rald hx hb hK hw 2 0 rfl (sg_lt hi4) rfl d_Pla_make_30 hm (fun hm => ?_)
        refine lv_iload_n hx hb d_Pla_make_31 rfl (lv_at hl 4 rfl) ?_
        obtain ⟨o5, h5, hm⟩ := zc_x hm
        refine sg_ci0 (Sr := [[(q_p1, .inr (4, [.ref q_p1_numbers, .ref q_p1_needCounts, .ref q_p1_needed, .ref q_p1_conditions, .ref q_p1_allNeeded, .int v_p1_jobs]))], [(q_p1_numbers, .inl (cM, gro 27 d_p1_numbers))], gl cI d_p1_numbers 27 4 g_p1_numbers, [(q_p0, .inr (5, [.ref q_p0_states, .ref q_p0_startTimes, .ref q_p0_loggedJobs, .ref q_p0_loggedTimes, .int o1.1, .int (0 : Int32)]))], [(q_p0_states, .inl (cI, 27, .inl f3))]]) (va_runV (As := [.int (g_p1_numbers x2.toNatClampNeg (0 : Int32).toNatClampNeg), .int a3_x]) (rest := []) ⟨hx, hb, hml, hown, hts⟩ (ct_Cal_hasDay l dC dI cI cL cM cZ q_p2 q_p2_rules q_p2_places q_p2_holidays v_p2_made v_p2_holidayCount f_p2_rules f_p2_places f_p2_holidays (g_p1_numbers x2.toNatClampNeg (0 : Int32).toNatClampNeg) a3_x N o5 h5 _) (cwV 2 hts (gd_V wd_427 wd_404 wd_405 wd_2 wd_406) rfl rfl rfl (by decide +kernel) ⟨Nat.le_of_ble_eq_true rfl, Nat.le_of_ble_eq_true rfl⟩) (sg_preV (ci := 1) (q0 := 3) hK hNW hw [3, 4, 5, 6] rfl rfl rfl rfl) rfl rfl hl.1 rfl (lv_room (Nat.le_of_ble_eq_true rfl)) d_Pla_make_32 ⟨Nat.le_of_ble_eq_true rfl, Nat.le_of_ble_eq_true rfl⟩) hw hA [3, 4, 5, 6] [0, 1, 2, 7, 8] rfl rfl rfl (by decide) (fun H locs hw => ?_)
        have hw : wk (dC, dI) vwCl A s.heap [[(q_p1, .inr (4, [.ref q_p1_numbers, .ref q_p1_needCounts, .ref q_p1_needed, .ref q_p1_conditions, .ref q_p1_allNeeded, .int v_p1_jobs]))], [(q_p1_numbers, .inl (cM, gro 27 d_p1_numbers))], gl cI d_p1_numbers 27 4 g_p1_numbers, [(q_p0, .inr (5, [.ref q_p0_states, .ref q_p0_startTimes, .ref q_p0_loggedJobs, .ref q_p0_loggedTimes, .int o1.1, .int (0 : Int32)]))], [(q_p0_states, .inl (cI, 27, .inl f3))], [(q_p2, .inr (1, [.ref q_p2_rules, .ref q_p2_places, .ref q_p2_holidays, .int v_p2_made, .int v_p2_holidayCount]))], [(q_p2_rules, .inl (cI, 20, .inl f_p2_rules))], [(q_p2_places, .inl (cI, 20, .inl f_p2_places))], [(q_p2_holidays, .inl (cI, 100, .inl f_p2_holidays))]] H locs := hw
        refine bq_t (lv_if_eq (tgt := 46) hx hb d_Pla_make_35 (by decide)) hm (fun hm => ?_) (fun hm => ?_)
        · refine lv_iinc (v := x2 + 1) (lv' := [(4, .int (x2 + 1)), (0, .ref q_p0), (1, .ref q_p1), (2, .ref q_p2), (3, .int a3_x)]) hx hb d_Pla_make_46 hl (k := 0) rfl rfl (by decide) rfl (fun ls hl => ?_)
          refine lv_goto (tgt := 12) hx hb d_Pla_make_49 (by decide) ?_
          exact ih12 (x2 + 1) f3 hm _ _ _ (hw.sub [0, 1, 2, 5, 6, 7, 8, 3, 4] (by decide) rfl) hl
        · refine lv_aload_n hx hb d_Pla_make_38 rfl (lv_at hl 1 rfl) ?_
          refine sg_get (D := (dC, dI)) (ci := 5) (v := .ref q_p0_states) (C := "JobNets$Plan") (T := T_5) (N := 6) hx hb hts hin_5 hown hK hw 3 rfl rfl 0 (by decide) (hts _ wd_90) rfl rfl d_Pla_make_39 ?_
          refine lv_iload hx hb d_Pla_make_42 (lv_at hl 0 rfl) ?_
          refine lv_iconst (v := 1) hx hb d_Pla_make_44 (by decide) ?_
          refine sg_iast (S1 := fun f6 => [[(q_p1, .inr (4, [.ref q_p1_numbers, .ref q_p1_needCounts, .ref q_p1_needed, .ref q_p1_conditions, .ref q_p1_allNeeded, .int v_p1_jobs]))], [(q_p1_numbers, .inl (cM, gro 27 d_p1_numbers))], gl cI d_p1_numbers 27 4 g_p1_numbers, [(q_p0, .inr (5, [.ref q_p0_states, .ref q_p0_startTimes, .ref q_p0_loggedJobs, .ref q_p0_loggedTimes, .int o1.1, .int (0 : Int32)]))], [(q_p0_states, .inl (cI, 27, .inl f6))], [(q_p2, .inr (1, [.ref q_p2_rules, .ref q_p2_places, .ref q_p2_holidays, .int v_p2_made, .int v_p2_holidayCount]))], [(q_p2_rules, .inl (cI, 20, .inl f_p2_rules))], [(q_p2_places, .inl (cI, 20, .inl f_p2_places))], [(q_p2_holidays, .inl (cI, 100, .inl f_p2_holidays))]]) hx hb hK hw 4 0 rfl rfl d_Pla_make_45 (fun _ => rfl) hm (fun f6 H locs hm hw => ?_)
          refine lv_iinc (v := x2 + 1) (lv' := [(4, .int (x2 + 1)), (0, .ref q_p0), (1, .ref q_p1), (2, .ref q_p2), (3, .int a3_x)]) hx hb d_Pla_make_46 hl (k := 0) rfl rfl (by decide) rfl (fun ls hl => ?_)
          refine lv_goto (tgt := 12) hx hb d_Pla_make_49 (by decide) ?_
          exact ih12 (x2 + 1) f6 hm _ _ _ (hw.sub [0, 1, 2, 5, 6, 7, 8, 3, 4] (by decide) rfl) hl
  exact L12 _ _ _ hm _ _ _ hw hl
theorem d_Pla_canStart_0 : decode prog_6_method_8_code 0 = .ok (.aload_n 0, 1) := by decide +kernel
theorem d_Pla_canStart_1 : decode prog_6_method_8_code 1 = .ok (.getfield 9, 3) := by decide +kernel
theorem d_Pla_canStart_4 : decode prog_6_method_8_code 4 = .ok (.iload_n 2, 1) := by decide +kernel
theorem d_Pla_canStart_5 : decode prog_6_method_8_code 5 = .ok (.iaload, 1) := by decide +kernel
theorem d_Pla_canStart_6 : decode prog_6_method_8_code 6 = .ok (.iconst 1, 1) := by decide +kernel
theorem d_Pla_canStart_7 : decode prog_6_method_8_code 7 = .ok (.if_icmp .ne 18, 3) := by decide +kernel
theorem d_Pla_canStart_10 : decode prog_6_method_8_code 10 = .ok (.aload_n 0, 1) := by decide +kernel
theorem d_Pla_canStart_11 : decode prog_6_method_8_code 11 = .ok (.getfield 28, 3) := by decide +kernel
theorem d_Pla_canStart_14 : decode prog_6_method_8_code 14 = .ok (.aload_n 1, 1) := by decide +kernel
theorem d_Pla_canStart_15 : decode prog_6_method_8_code 15 = .ok (.getfield 45, 3) := by decide +kernel
theorem d_Pla_canStart_18 : decode prog_6_method_8_code 18 = .ok (.iload_n 2, 1) := by decide +kernel
theorem d_Pla_canStart_19 : decode prog_6_method_8_code 19 = .ok (.aaload, 1) := by decide +kernel
theorem d_Pla_canStart_20 : decode prog_6_method_8_code 20 = .ok (.iconst 2, 1) := by decide +kernel
theorem d_Pla_canStart_21 : decode prog_6_method_8_code 21 = .ok (.iaload, 1) := by decide +kernel
theorem d_Pla_canStart_22 : decode prog_6_method_8_code 22 = .ok (.if_icmp .ge 5, 3) := by decide +kernel
theorem d_Pla_canStart_25 : decode prog_6_method_8_code 25 = .ok (.iconst 0, 1) := by decide +kernel
theorem d_Pla_canStart_26 : decode prog_6_method_8_code 26 = .ok (.ireturn, 1) := by decide +kernel
theorem d_Pla_canStart_27 : decode prog_6_method_8_code 27 = .ok (.iconst 0, 1) := by decide +kernel
theorem d_Pla_canStart_28 : decode prog_6_method_8_code 28 = .ok (.istore_n 3, 1) := by decide +kernel
theorem d_Pla_canStart_29 : decode prog_6_method_8_code 29 = .ok (.iload_n 3, 1) := by decide +kernel
theorem d_Pla_canStart_30 : decode prog_6_method_8_code 30 = .ok (.aload_n 1, 1) := by decide +kernel
theorem d_Pla_canStart_31 : decode prog_6_method_8_code 31 = .ok (.getfield 67, 3) := by decide +kernel
theorem d_Pla_canStart_34 : decode prog_6_method_8_code 34 = .ok (.iload_n 2, 1) := by decide +kernel
theorem d_Pla_canStart_35 : decode prog_6_method_8_code 35 = .ok (.iaload, 1) := by decide +kernel
theorem d_Pla_canStart_36 : decode prog_6_method_8_code 36 = .ok (.if_icmp .ge 38, 3) := by decide +kernel
theorem d_Pla_canStart_39 : decode prog_6_method_8_code 39 = .ok (.aload_n 0, 1) := by decide +kernel
theorem d_Pla_canStart_40 : decode prog_6_method_8_code 40 = .ok (.getfield 9, 3) := by decide +kernel
theorem d_Pla_canStart_43 : decode prog_6_method_8_code 43 = .ok (.aload_n 1, 1) := by decide +kernel
theorem d_Pla_canStart_44 : decode prog_6_method_8_code 44 = .ok (.getfield 70, 3) := by decide +kernel
theorem d_Pla_canStart_47 : decode prog_6_method_8_code 47 = .ok (.iload_n 2, 1) := by decide +kernel
theorem d_Pla_canStart_48 : decode prog_6_method_8_code 48 = .ok (.aaload, 1) := by decide +kernel
theorem d_Pla_canStart_49 : decode prog_6_method_8_code 49 = .ok (.iload_n 3, 1) := by decide +kernel
theorem d_Pla_canStart_50 : decode prog_6_method_8_code 50 = .ok (.iaload, 1) := by decide +kernel
theorem d_Pla_canStart_51 : decode prog_6_method_8_code 51 = .ok (.iaload, 1) := by decide +kernel
theorem d_Pla_canStart_52 : decode prog_6_method_8_code 52 = .ok (.aload_n 1, 1) := by decide +kernel
theorem d_Pla_canStart_53 : decode prog_6_method_8_code 53 = .ok (.getfield 73, 3) := by decide +kernel
theorem d_Pla_canStart_56 : decode prog_6_method_8_code 56 = .ok (.iload_n 2, 1) := by decide +kernel
theorem d_Pla_canStart_57 : decode prog_6_method_8_code 57 = .ok (.aaload, 1) := by decide +kernel
theorem d_Pla_canStart_58 : decode prog_6_method_8_code 58 = .ok (.iload_n 3, 1) := by decide +kernel
theorem d_Pla_canStart_59 : decode prog_6_method_8_code 59 = .ok (.iaload, 1) := by decide +kernel
theorem d_Pla_canStart_60 : decode prog_6_method_8_code 60 = .ok (.invokestatic 76, 3) := by decide +kernel
theorem d_Pla_canStart_63 : decode prog_6_method_8_code 63 = .ok (.ifCond .ne 5, 3) := by decide +kernel
theorem d_Pla_canStart_66 : decode prog_6_method_8_code 66 = .ok (.iconst 0, 1) := by decide +kernel
theorem d_Pla_canStart_67 : decode prog_6_method_8_code 67 = .ok (.ireturn, 1) := by decide +kernel
theorem d_Pla_canStart_68 : decode prog_6_method_8_code 68 = .ok (.iinc 3 1, 3) := by decide +kernel
theorem d_Pla_canStart_71 : decode prog_6_method_8_code 71 = .ok (.goto (-42), 3) := by decide +kernel
theorem d_Pla_canStart_74 : decode prog_6_method_8_code 74 = .ok (.iconst 1, 1) := by decide +kernel
theorem d_Pla_canStart_75 : decode prog_6_method_8_code 75 = .ok (.ireturn, 1) := by decide +kernel
def md_Pla_canStart_F29 (f_p0_states : Nat → Int32) (f_p1_needCounts : Nat → Int32) (g_p1_needed : Nat → Nat → Int32) (g_p1_conditions : Nat → Nat → Int32) (a2_x : Int32) (N : Nat) (rec29 : Int32 → Option (Int32)) (x2 : Int32) : Option (Int32) :=
  (if sg_in a2_x 27 = true then (if (f_p1_needCounts a2_x.toNatClampNeg) ≤ x2 then (some (1 : Int32)) else (if sg_in a2_x 27 = true then (if sg_in x2 20 = true then (if sg_in (g_p1_needed a2_x.toNatClampNeg x2.toNatClampNeg) 27 = true then (if sg_in a2_x 27 = true then (if sg_in x2 20 = true then (zc (md_Pla_isSo N (f_p0_states (g_p1_needed a2_x.toNatClampNeg x2.toNatClampNeg).toNatClampNeg) (g_p1_conditions a2_x.toNatClampNeg x2.toNatClampNeg)) (fun o5 => (if o5 = 0 then (some (0 : Int32)) else (rec29 (x2 + 1))))) else none) else none) else none) else none) else none)) else none)
def md_Pla_canStart (N : Nat) (v_p0_time : Int32) (f_p0_states : Nat → Int32) (g_p1_numbers : Nat → Nat → Int32) (f_p1_needCounts : Nat → Int32) (g_p1_needed : Nat → Nat → Int32) (g_p1_conditions : Nat → Nat → Int32) (a2_x : Int32) : Option (Int32) :=
  (if sg_in a2_x 27 = true then (if (f_p0_states a2_x.toNatClampNeg) = (1 : Int32) then (if sg_in a2_x 27 = true then (if sg_in (2 : Int32) 4 = true then (if (g_p1_numbers a2_x.toNatClampNeg (2 : Int32).toNatClampNeg) ≤ v_p0_time then (fx1 (md_Pla_canStart_F29 f_p0_states f_p1_needCounts g_p1_needed g_p1_conditions a2_x N) N (0 : Int32)) else (some (0 : Int32))) else none) else none) else (some (0 : Int32))) else none)
abbrev sc_Pla_canStart (cI cL cM cZ : ClassId) (q_p0 q_p1 q_p0_states q_p0_startTimes q_p0_loggedJobs q_p0_loggedTimes q_p1_numbers q_p1_needCounts q_p1_needed q_p1_conditions q_p1_allNeeded : Nat) (d_p1_numbers d_p1_needed d_p1_conditions : Nat → Nat) (v_p0_starts : Int32) (v_p0_time : Int32) (f_p0_states : Nat → Int32) (v_p1_jobs : Int32) (g_p1_numbers : Nat → Nat → Int32) (f_p1_needCounts : Nat → Int32) (g_p1_needed : Nat → Nat → Int32) (g_p1_conditions : Nat → Nat → Int32) : List va_W := [[(q_p0, .inr (5, [.ref q_p0_states, .ref q_p0_startTimes, .ref q_p0_loggedJobs, .ref q_p0_loggedTimes, .int v_p0_starts, .int v_p0_time]))], [(q_p0_states, .inl (cI, 27, .inl f_p0_states))], [(q_p1, .inr (4, [.ref q_p1_numbers, .ref q_p1_needCounts, .ref q_p1_needed, .ref q_p1_conditions, .ref q_p1_allNeeded, .int v_p1_jobs]))], [(q_p1_numbers, .inl (cM, gro 27 d_p1_numbers))], gl cI d_p1_numbers 27 4 g_p1_numbers, [(q_p1_needCounts, .inl (cI, 27, .inl f_p1_needCounts))], [(q_p1_needed, .inl (cM, gro 27 d_p1_needed))], gl cI d_p1_needed 27 20 g_p1_needed, [(q_p1_conditions, .inl (cM, gro 27 d_p1_conditions))], gl cI d_p1_conditions 27 20 g_p1_conditions]
abbrev rm_Pla_canStart : Room := { frames := 1, cells := 0, slots := 0, locals := 21 }
set_option maxHeartbeats 4000000 in
set_option maxRecDepth 100000 in
theorem ct_Pla_canStart (l : Launch) (dC : Nat → ClassId) (dI : Nat → Nat → Nat) (cI cL cM cZ : ClassId) (q_p0 q_p1 q_p0_states q_p0_startTimes q_p0_loggedJobs q_p0_loggedTimes q_p1_numbers q_p1_needCounts q_p1_needed q_p1_conditions q_p1_allNeeded : Nat) (d_p1_numbers d_p1_needed d_p1_conditions : Nat → Nat) (v_p0_starts : Int32) (v_p0_time : Int32) (f_p0_states : Nat → Int32) (v_p1_jobs : Int32) (g_p1_numbers : Nat → Nat → Int32) (f_p1_needCounts : Nat → Int32) (g_p1_needed : Nat → Nat → Int32) (g_p1_conditions : Nat → Nat → Int32) (a2_x : Int32) (N : Nat) (o : Int32) (hm : md_Pla_canStart N v_p0_time f_p0_states g_p1_numbers f_p1_needCounts g_p1_needed g_p1_conditions a2_x = some o) : ∀ sz : Nat, Met l y_Pla_canStart ws_Pla_canStart rm_Pla_canStart (cP (dC, dI) vwCl [(cI, .int), (cL, .long), (cM, .array .int), (cZ, .boolean)] [.ref q_p0, .ref q_p1, .int a2_x] sz (sc_Pla_canStart cI cL cM cZ q_p0 q_p1 q_p0_states q_p0_startTimes q_p0_loggedJobs q_p0_loggedTimes q_p1_numbers q_p1_needCounts q_p1_needed q_p1_conditions q_p1_allNeeded d_p1_numbers d_p1_needed d_p1_conditions v_p0_starts v_p0_time f_p0_states v_p1_jobs g_p1_numbers f_p1_needCounts g_p1_needed g_p1_conditions)) (cQi (dC, dI) vwCl [(cI, .int), (cL, .long), (cM, .array .int), (cZ, .boolean)] sz (sc_Pla_canStart cI cL cM cZ q_p0 q_p1 q_p0_states q_p0_startTimes q_p0_loggedJobs q_p0_loggedTimes q_p1_numbers q_p1_needCounts q_p1_needed q_p1_conditions q_p1_allNeeded d_p1_numbers d_p1_needed d_p1_conditions v_p0_starts v_p0_time f_p0_states v_p1_jobs g_p1_numbers f_p1_needCounts g_p1_needed g_p1_conditions) o (sc_Pla_canStart cI cL cM cZ q_p0 q_p1 q_p0_states q_p0_startTimes q_p0_loggedJobs q_p0_loggedTimes q_p1_numbers q_p1_needCounts q_p1_needed q_p1_conditions q_p1_allNeeded d_p1_numbers d_p1_needed d_p1_conditions v_p0_starts v_p0_time f_p0_states v_p1_jobs g_p1_numbers f_p1_needCounts g_p1_needed g_p1_conditions)) 0 0 (va_A ((sc_Pla_canStart cI cL cM cZ q_p0 q_p1 q_p0_states q_p0_startTimes q_p0_loggedJobs q_p0_loggedTimes q_p1_numbers q_p1_needCounts q_p1_needed q_p1_conditions q_p1_allNeeded d_p1_numbers d_p1_needed d_p1_conditions v_p0_starts v_p0_time f_p0_states v_p1_jobs g_p1_numbers f_p1_needCounts g_p1_needed g_p1_conditions)).flatten sz) := by
  refine sg_met (fun sz => cQi (dC, dI) vwCl [(cI, .int), (cL, .long), (cM, .array .int), (cZ, .boolean)] sz (sc_Pla_canStart cI cL cM cZ q_p0 q_p1 q_p0_states q_p0_startTimes q_p0_loggedJobs q_p0_loggedTimes q_p1_numbers q_p1_needCounts q_p1_needed q_p1_conditions q_p1_allNeeded d_p1_numbers d_p1_needed d_p1_conditions v_p0_starts v_p0_time f_p0_states v_p1_jobs g_p1_numbers f_p1_needCounts g_p1_needed g_p1_conditions) o (sc_Pla_canStart cI cL cM cZ q_p0 q_p1 q_p0_states q_p0_startTimes q_p0_loggedJobs q_p0_loggedTimes q_p1_numbers q_p1_needCounts q_p1_needed q_p1_conditions q_p1_allNeeded d_p1_numbers d_p1_needed d_p1_conditions v_p0_starts v_p0_time f_p0_states v_p1_jobs g_p1_numbers f_p1_needCounts g_p1_needed g_p1_conditions)) (by decide) (Nat.le_of_ble_eq_true rfl) ?_
  intro p e s m args below meth c A Q ls hx hb hr hts hown hlocks hml hname hK hNW hA hAe hQ hw hl
  have hl : lv_has ls 4 [(0, .ref q_p0), (1, .ref q_p1), (2, .int a2_x)] := hl
  have hw : wk (dC, dI) vwCl A s.heap [[(q_p0, .inr (5, [.ref q_p0_states, .ref q_p0_startTimes, .ref q_p0_loggedJobs, .ref q_p0_loggedTimes, .int v_p0_starts, .int v_p0_time]))], [(q_p0_states, .inl (cI, 27, .inl f_p0_states))], [(q_p1, .inr (4, [.ref q_p1_numbers, .ref q_p1_needCounts, .ref q_p1_needed, .ref q_p1_conditions, .ref q_p1_allNeeded, .int v_p1_jobs]))], [(q_p1_numbers, .inl (cM, gro 27 d_p1_numbers))], gl cI d_p1_numbers 27 4 g_p1_numbers, [(q_p1_needCounts, .inl (cI, 27, .inl f_p1_needCounts))], [(q_p1_needed, .inl (cM, gro 27 d_p1_needed))], gl cI d_p1_needed 27 20 g_p1_needed, [(q_p1_conditions, .inl (cM, gro 27 d_p1_conditions))], gl cI d_p1_conditions 27 20 g_p1_conditions] s.heap [] := hw
  unfold md_Pla_canStart at hm
  refine lv_aload_n hx hb d_Pla_canStart_0 rfl (lv_at hl 0 rfl) ?_
  refine sg_get (D := (dC, dI)) (ci := 5) (v := .ref q_p0_states) (C := "JobNets$Plan") (T := T_5) (N := 6) hx hb hts hin_5 hown hK hw 0 rfl rfl 0 (by decide) (hts _ wd_90) rfl rfl d_Pla_canStart_1 ?_
  refine lv_iload_n hx hb d_Pla_canStart_4 rfl (lv_at hl 2 rfl) ?_
  refine sg_iald hx hb hK hw 1 0 rfl rfl d_Pla_canStart_5 hm (fun hm => ?_)
  refine lv_iconst (v := 1) hx hb d_Pla_canStart_6 (by decide) ?_
  refine bq_n (lv_icmp_ne (tgt := 25) hx hb d_Pla_canStart_7 (by decide)) hm (fun hm => ?_) (fun hm => ?_)
  · refine lv_iconst (v := 0) hx hb d_Pla_canStart_25 (by decide) ?_
    exact so_zret (rf := fun z_ => z_) (Sf := fun z_ => sc_Pla_canStart cI cL cM cZ q_p0 q_p1 q_p0_states q_p0_startTimes q_p0_loggedJobs q_p0_loggedTimes q_p1_numbers q_p1_needCounts q_p1_needed q_p1_conditions q_p1_allNeeded d_p1_numbers d_p1_needed d_p1_conditions v_p0_starts v_p0_time f_p0_states v_p1_jobs g_p1_numbers f_p1_needCounts g_p1_needed g_p1_conditions) hm hx hb hr rfl hlocks hAe hQ hK hw rfl d_Pla_canStart_26
  · refine lv_aload_n hx hb d_Pla_canStart_10 rfl (lv_at hl 0 rfl) ?_
    refine sg_get (D := (dC, dI)) (ci := 5) (v := .int v_p0_time) (C := "JobNets$Plan") (T := T_5) (N := 6) hx hb hts hin_5 hown hK hw 0 rfl rfl 5 (by decide) (hts _ wd_100) rfl rfl d_Pla_canStart_11 ?_
    refine lv_aload_n hx hb d_Pla_canStart_14 rfl (lv_at hl 1 rfl) ?_
    refine sg_getN (D := (dC, dI)) (ci := 4) (v := .ref q_p1_numbers) (C := "JobNets$Net") (T := T_4) (N := 6) hx hb hts hin_4 hown hK hw 2 rfl rfl 0 (by decide) (nF_12 hNW) rfl rfl d_Pla_canStart_15 ?_
    refine lv_iload_n hx hb d_Pla_canStart_18 rfl (lv_at hl 2 rfl) ?_
    obtain ⟨hi1, hm⟩ := it_n hm
    refine sg_aald hx hb hK hw 3 2 rfl rfl hi1 d_Pla_canStart_19 ?_
    refine lv_iconst (v := 2) hx hb d_Pla_canStart_20 (by decide) ?_
    refine sg_rald hx hb hK hw 4 0 rfl (sg_lt hi1) rfl d_Pla_canStart_21 hm (fun hm => ?_)
    refine bq_t (lv_icmp_ge (tgt := 27) hx hb d_Pla_canStart_22 (by decide)) hm (fun hm => ?_) (fun hm => ?_)
    · refine lv_iconst (v := 0) hx hb d_Pla_canStart_27 (by decide) ?_
      refine lv_istore_n (lv' := [(3, .int (0 : Int32)), (0, .ref q_p0), (1, .ref q_p1), (2, .int a2_x)]) hx hb d_Pla_canStart_28 rfl hl (by decide) rfl (fun ls hl => ?_)
      obtain ⟨Fn29, hFn29, hm⟩ := fx1_x hm
      have L29 : ∀ (n : Nat) (x2 : Int32), fx1 Fn29 n x2 = some o → ∀ (H : Heap) (locs : List Loc) (ls : Array Slot), wk (dC, dI) vwCl A s.heap [[(q_p0, .inr (5, [.ref q_p0_states, .ref q_p0_startTimes, .ref q_p0_loggedJobs, .ref q_p0_loggedTimes, .int v_p0_starts, .int v_p0_time]))], [(q_p0_states, .inl (cI, 27, .inl f_p0_states))], [(q_p1, .inr (4, [.ref q_p1_numbers, .ref q_p1_needCounts, .ref q_p1_needed, .ref q_p1_conditions, .ref q_p1_allNeeded, .int v_p1_jobs]))], [(q_p1_numbers, .inl (cM, gro 27 d_p1_numbers))], gl cI d_p1_numbers 27 4 g_p1_numbers, [(q_p1_needCounts, .inl (cI, 27, .inl f_p1_needCounts))], [(q_p1_needed, .inl (cM, gro 27 d_p1_needed))], gl cI d_p1_needed 27 20 g_p1_needed, [(q_p1_conditions, .inl (cM, gro 27 d_p1_conditions))], gl cI d_p1_conditions 27 20 g_p1_conditions] H locs → lv_has ls 4 [(3, .int x2), (0, .ref q_p0), (1, .ref q_p1), (2, .int a2_x)] → W p l e rm_Pla_canStart s m args below meth c H locs 0 0 Q (F0 m 29 ls []) := by
        intro n
        induction n with
        | zero => intro x2 hm; exact (fx1_0 hm).elim
        | succ n ih29 =>
          intro x2 hm H locs ls hw hl
          have hm := fx1_s hFn29 hm
          unfold md_Pla_canStart_F29 at hm
          refine lv_iload_n hx hb d_Pla_canStart_29 rfl (lv_at hl 0 rfl) ?_
          refine lv_aload_n hx hb d_Pla_canStart_30 rfl (lv_at hl 2 rfl) ?_
          refine sg_getN (D := (dC, dI)) (ci := 4) (v := .ref q_p1_needCounts) (C := "JobNets$Net") (T := T_4) (N := 6) hx hb hts hin_4 hown hK hw 2 rfl rfl 1 (by decide) (nF_19 hNW) rfl rfl d_Pla_canStart_31 ?_
          refine lv_iload_n hx hb d_Pla_canStart_34 rfl (lv_at hl 3 rfl) ?_
          refine sg_iald hx hb hK hw 5 0 rfl rfl d_Pla_canStart_35 hm (fun hm => ?_)
          refine bq_t (lv_icmp_ge (tgt := 74) hx hb d_Pla_canStart_36 (by decide)) hm (fun hm => ?_) (fun hm => ?_)
          · refine lv_iconst (v := 1) hx hb d_Pla_canStart_74 (by decide) ?_
            exact so_zret (rf := fun z_ => z_) (Sf := fun z_ => sc_Pla_canStart cI cL cM cZ q_p0 q_p1 q_p0_states q_p0_startTimes q_p0_loggedJobs q_p0_loggedTimes q_p1_numbers q_p1_needCounts q_p1_needed q_p1_conditions q_p1_allNeeded d_p1_numbers d_p1_needed d_p1_conditions v_p0_starts v_p0_time f_p0_states v_p1_jobs g_p1_numbers f_p1_needCounts g_p1_needed g_p1_conditions) hm hx hb hr rfl hlocks hAe hQ hK hw rfl d_Pla_canStart_75
          · refine lv_aload_n hx hb d_Pla_canStart_39 rfl (lv_at hl 1 rfl) ?_
            refine sg_get (D := (dC, dI)) (ci := 5) (v := .ref q_p0_states) (C := "JobNets$Plan") (T := T_5) (N := 6) hx hb hts hin_5 hown hK hw 0 rfl rfl 0 (by decide) (hts _ wd_90) rfl rfl d_Pla_canStart_40 ?_
            refine lv_aload_n hx hb d_Pla_canStart_43 rfl (lv_at hl 2 rfl) ?_
            refine sg_getN (D := (dC, dI)) (ci := 4) (v := .ref q_p1_needed) (C := "JobNets$Net") (T := T_4) (N := 6) hx hb hts hin_4 hown hK hw 2 rfl rfl 2 (by decide) (nF_22 hNW) rfl rfl d_Pla_canStart_44 ?_
            refine lv_iload_n hx hb d_Pla_canStart_47 rfl (lv_at hl 3 rfl) ?_
            obtain ⟨hi3, hm⟩ := it_n hm
            refine sg_aald hx hb hK hw 6 2 rfl rfl hi3 d_Pla_canStart_48 ?_
            refine lv_iload_n hx hb d_Pla_canStart_49 rfl (lv_at hl 0 rfl) ?_
            refine sg_rald hx hb hK hw 7 0 rfl (sg_lt hi3) rfl d_Pla_canStart_50 hm (fun hm => ?_)
            refine sg_iald hx hb hK hw 1 0 rfl rfl d_Pla_canStart_51 hm (fun hm => ?_)
            refine lv_aload_n hx hb d_Pla_canStart_52 rfl (lv_at hl 2 rfl) ?_
            refine sg_getN (D := (dC, dI)) (ci := 4) (v := .ref q_p1_conditions) (C := "JobNets$Net") (T := T_4) (N := 6) hx hb hts hin_4 hown hK hw 2 rfl rfl 3 (by decide) (nF_23 hNW) rfl rfl d_Pla_canStart_53 ?_
            refine lv_iload_n hx hb d_Pla_canStart_56 rfl (lv_at hl 3 rfl) ?_
            obtain ⟨hi4, hm⟩ := it_n hm
            refine sg_aald hx hb hK hw 8 2 rfl rfl hi4 d_Pla_canStart_57 ?_
            refine lv_iload_n hx hb d_Pla_canStart_58 rfl (lv_at hl 0 rfl) ?_
            refine sg_rald hx hb hK hw 9 0 rfl (sg_lt hi4) rfl d_Pla_canStart_59 hm (fun hm => ?_)
            obtain ⟨o5, h5, hm⟩ := zc_x hm
            refine sg_ci0 (Sr := [[(q_p0, .inr (5, [.ref q_p0_states, .ref q_p0_startTimes, .ref q_p0_loggedJobs, .ref q_p0_loggedTimes, .int v_p0_starts, .int v_p0_time]))], [(q_p0_states, .inl (cI, 27, .inl f_p0_states))], [(q_p1, .inr (4, [.ref q_p1_numbers, .ref q_p1_needCounts, .ref q_p1_needed, .ref q_p1_conditions, .ref q_p1_allNeeded, .int v_p1_jobs]))], [(q_p1_numbers, .inl (cM, gro 27 d_p1_numbers))], gl cI d_p1_numbers 27 4 g_p1_numbers, [(q_p1_needCounts, .inl (cI, 27, .inl f_p1_needCounts))], [(q_p1_needed, .inl (cM, gro 27 d_p1_needed))], gl cI d_p1_needed 27 20 g_p1_needed, [(q_p1_conditions, .inl (cM, gro 27 d_p1_conditions))], gl cI d_p1_conditions 27 20 g_p1_conditions]) (va_runS (As := [.int (f_p0_states (g_p1_needed a2_x.toNatClampNeg x2.toNatClampNeg).toNatClampNeg), .int (g_p1_conditions a2_x.toNatClampNeg x2.toNatClampNeg)]) (rest := []) ⟨hx, hb, hml, hown, hts⟩ (ct_Pla_isSo l dC dI cI cL cM cZ (f_p0_states (g_p1_needed a2_x.toNatClampNeg x2.toNatClampNeg).toNatClampNeg) (g_p1_conditions a2_x.toNatClampNeg x2.toNatClampNeg) N o5 h5 _) (cwS 2 hts (gd_S wd_440 wd_441 wd_4 wd_442) rfl rfl rfl (by decide +kernel) ⟨Nat.le_of_ble_eq_true rfl, Nat.le_of_ble_eq_true rfl⟩) (sg_preS hK hNW hw [] rfl rfl) rfl rfl hl.1 rfl (lv_room (Nat.le_of_ble_eq_true rfl)) d_Pla_canStart_60 ⟨Nat.le_of_ble_eq_true rfl, Nat.le_of_ble_eq_true rfl⟩) hw hA [] [0, 1, 2, 3, 4, 5, 6, 7, 8, 9] rfl rfl rfl (by decide) (fun H locs hw => ?_)
            have hw : wk (dC, dI) vwCl A s.heap [[(q_p0, .inr (5, [.ref q_p0_states, .ref q_p0_startTimes, .ref q_p0_loggedJobs, .ref q_p0_loggedTimes, .int v_p0_starts, .int v_p0_time]))], [(q_p0_states, .inl (cI, 27, .inl f_p0_states))], [(q_p1, .inr (4, [.ref q_p1_numbers, .ref q_p1_needCounts, .ref q_p1_needed, .ref q_p1_conditions, .ref q_p1_allNeeded, .int v_p1_jobs]))], [(q_p1_numbers, .inl (cM, gro 27 d_p1_numbers))], gl cI d_p1_numbers 27 4 g_p1_numbers, [(q_p1_needCounts, .inl (cI, 27, .inl f_p1_needCounts))], [(q_p1_needed, .inl (cM, gro 27 d_p1_needed))], gl cI d_p1_needed 27 20 g_p1_needed, [(q_p1_conditions, .inl (cM, gro 27 d_p1_conditions))], gl cI d_p1_conditions 27 20 g_p1_conditions] H locs := hw
            refine bq_n (lv_if_ne (tgt := 68) hx hb d_Pla_canStart_63 (by decide)) hm (fun hm => ?_) (fun hm => ?_)
            · refine lv_iinc (v := x2 + 1) (lv' := [(3, .int (x2 + 1)), (0, .ref q_p0), (1, .ref q_p1), (2, .int a2_x)]) hx hb d_Pla_canStart_68 hl (k := 0) rfl rfl (by decide) rfl (fun ls hl => ?_)
              refine lv_goto (tgt := 29) hx hb d_Pla_canStart_71 (by decide) ?_
              exact ih29 (x2 + 1) hm _ _ _ hw hl
            · refine lv_iconst (v := 0) hx hb d_Pla_canStart_66 (by decide) ?_
              exact so_zret (rf := fun z_ => z_) (Sf := fun z_ => sc_Pla_canStart cI cL cM cZ q_p0 q_p1 q_p0_states q_p0_startTimes q_p0_loggedJobs q_p0_loggedTimes q_p1_numbers q_p1_needCounts q_p1_needed q_p1_conditions q_p1_allNeeded d_p1_numbers d_p1_needed d_p1_conditions v_p0_starts v_p0_time f_p0_states v_p1_jobs g_p1_numbers f_p1_needCounts g_p1_needed g_p1_conditions) hm hx hb hr rfl hlocks hAe hQ hK hw rfl d_Pla_canStart_67
      exact L29 _ _ hm _ _ _ hw hl
    · refine lv_iconst (v := 0) hx hb d_Pla_canStart_25 (by decide) ?_
      exact so_zret (rf := fun z_ => z_) (Sf := fun z_ => sc_Pla_canStart cI cL cM cZ q_p0 q_p1 q_p0_states q_p0_startTimes q_p0_loggedJobs q_p0_loggedTimes q_p1_numbers q_p1_needCounts q_p1_needed q_p1_conditions q_p1_allNeeded d_p1_numbers d_p1_needed d_p1_conditions v_p0_starts v_p0_time f_p0_states v_p1_jobs g_p1_numbers f_p1_needCounts g_p1_needed g_p1_conditions) hm hx hb hr rfl hlocks hAe hQ hK hw rfl d_Pla_canStart_26
theorem d_Rin_find_0 : decode prog_7_method_3_code 0 = .ok (.aload_n 0, 1) := by decide +kernel
theorem d_Rin_find_1 : decode prog_7_method_3_code 1 = .ok (.getfield 15, 3) := by decide +kernel
theorem d_Rin_find_4 : decode prog_7_method_3_code 4 = .ok (.iconst (-1), 1) := by decide +kernel
theorem d_Rin_find_5 : decode prog_7_method_3_code 5 = .ok (.invokestatic 39, 3) := by decide +kernel
theorem d_Rin_find_8 : decode prog_7_method_3_code 8 = .ok (.aload_n 0, 1) := by decide +kernel
theorem d_Rin_find_9 : decode prog_7_method_3_code 9 = .ok (.getfield 15, 3) := by decide +kernel
theorem d_Rin_find_12 : decode prog_7_method_3_code 12 = .ok (.iload_n 2, 1) := by decide +kernel
theorem d_Rin_find_13 : decode prog_7_method_3_code 13 = .ok (.iconst 0, 1) := by decide +kernel
theorem d_Rin_find_14 : decode prog_7_method_3_code 14 = .ok (.iastore, 1) := by decide +kernel
theorem d_Rin_find_15 : decode prog_7_method_3_code 15 = .ok (.aload_n 0, 1) := by decide +kernel
theorem d_Rin_find_16 : decode prog_7_method_3_code 16 = .ok (.getfield 9, 3) := by decide +kernel
theorem d_Rin_find_19 : decode prog_7_method_3_code 19 = .ok (.iconst 0, 1) := by decide +kernel
theorem d_Rin_find_20 : decode prog_7_method_3_code 20 = .ok (.iload_n 2, 1) := by decide +kernel
theorem d_Rin_find_21 : decode prog_7_method_3_code 21 = .ok (.iastore, 1) := by decide +kernel
theorem d_Rin_find_22 : decode prog_7_method_3_code 22 = .ok (.iconst 1, 1) := by decide +kernel
theorem d_Rin_find_23 : decode prog_7_method_3_code 23 = .ok (.istore 5, 2) := by decide +kernel
theorem d_Rin_find_25 : decode prog_7_method_3_code 25 = .ok (.iconst 0, 1) := by decide +kernel
theorem d_Rin_find_26 : decode prog_7_method_3_code 26 = .ok (.istore 6, 2) := by decide +kernel
theorem d_Rin_find_28 : decode prog_7_method_3_code 28 = .ok (.iload 6, 2) := by decide +kernel
theorem d_Rin_find_30 : decode prog_7_method_3_code 30 = .ok (.bipush 26, 2) := by decide +kernel
theorem d_Rin_find_32 : decode prog_7_method_3_code 32 = .ok (.if_icmp .ge 42, 3) := by decide +kernel
theorem d_Rin_find_35 : decode prog_7_method_3_code 35 = .ok (.iload 6, 2) := by decide +kernel
theorem d_Rin_find_37 : decode prog_7_method_3_code 37 = .ok (.iload 5, 2) := by decide +kernel
theorem d_Rin_find_39 : decode prog_7_method_3_code 39 = .ok (.if_icmp .ge 35, 3) := by decide +kernel
theorem d_Rin_find_42 : decode prog_7_method_3_code 42 = .ok (.aload_n 0, 1) := by decide +kernel
theorem d_Rin_find_43 : decode prog_7_method_3_code 43 = .ok (.getfield 15, 3) := by decide +kernel
theorem d_Rin_find_46 : decode prog_7_method_3_code 46 = .ok (.iload_n 3, 1) := by decide +kernel
theorem d_Rin_find_47 : decode prog_7_method_3_code 47 = .ok (.iaload, 1) := by decide +kernel
theorem d_Rin_find_48 : decode prog_7_method_3_code 48 = .ok (.iconst (-1), 1) := by decide +kernel
theorem d_Rin_find_49 : decode prog_7_method_3_code 49 = .ok (.if_icmp .ne 25, 3) := by decide +kernel
theorem d_Rin_find_52 : decode prog_7_method_3_code 52 = .ok (.aload_n 0, 1) := by decide +kernel
theorem d_Rin_find_53 : decode prog_7_method_3_code 53 = .ok (.aload_n 1, 1) := by decide +kernel
theorem d_Rin_find_54 : decode prog_7_method_3_code 54 = .ok (.aload_n 0, 1) := by decide +kernel
theorem d_Rin_find_55 : decode prog_7_method_3_code 55 = .ok (.getfield 9, 3) := by decide +kernel
theorem d_Rin_find_58 : decode prog_7_method_3_code 58 = .ok (.iload 6, 2) := by decide +kernel
theorem d_Rin_find_60 : decode prog_7_method_3_code 60 = .ok (.iaload, 1) := by decide +kernel
theorem d_Rin_find_61 : decode prog_7_method_3_code 61 = .ok (.iload 5, 2) := by decide +kernel
theorem d_Rin_find_63 : decode prog_7_method_3_code 63 = .ok (.invokevirtual 45, 3) := by decide +kernel
theorem d_Rin_find_66 : decode prog_7_method_3_code 66 = .ok (.istore 5, 2) := by decide +kernel
theorem d_Rin_find_68 : decode prog_7_method_3_code 68 = .ok (.iinc 6 1, 3) := by decide +kernel
theorem d_Rin_find_71 : decode prog_7_method_3_code 71 = .ok (.goto (-43), 3) := by decide +kernel
theorem d_Rin_find_74 : decode prog_7_method_3_code 74 = .ok (.aload 4, 2) := by decide +kernel
theorem d_Rin_find_76 : decode prog_7_method_3_code 76 = .ok (.aload_n 0, 1) := by decide +kernel
theorem d_Rin_find_77 : decode prog_7_method_3_code 77 = .ok (.getfield 15, 3) := by decide +kernel
theorem d_Rin_find_80 : decode prog_7_method_3_code 80 = .ok (.iload_n 3, 1) := by decide +kernel
theorem d_Rin_find_81 : decode prog_7_method_3_code 81 = .ok (.invokevirtual 49, 3) := by decide +kernel
theorem d_Rin_find_84 : decode prog_7_method_3_code 84 = .ok (.return_, 1) := by decide +kernel
def md_Rin_find_F28 (f_p1_needCounts : Nat → Int32) (g_p1_needed : Nat → Nat → Int32) (v_p4_length : Int32) (f_p4_row : Nat → Int32) (a3_x : Int32) (N : Nat) (rec28 : Int32 → Int32 → (Nat → Int32) → (Nat → Int32) → Option ((Nat → Int32) × (Nat → Int32) × Int32 × (Nat → Int32))) (x4 : Int32) (x5 : Int32) (f6 : Nat → Int32) (f7 : Nat → Int32) : Option ((Nat → Int32) × (Nat → Int32) × Int32 × (Nat → Int32)) :=
  (if (26 : Int32) ≤ x4 then (zc (md_Way_trace N v_p4_length f_p4_row f7 a3_x) (fun o8 => (some (f6, f7, o8.1, o8.2)))) else (if x5 ≤ x4 then (zc (md_Way_trace N v_p4_length f_p4_row f7 a3_x) (fun o9 => (some (f6, f7, o9.1, o9.2)))) else (if sg_in a3_x 27 = true then (if (f7 a3_x.toNatClampNeg) = (-1 : Int32) then (if sg_in x4 26 = true then (zc (md_Rin_queueNeeded N f6 f7 f_p1_needCounts g_p1_needed (f6 x4.toNatClampNeg) x5) (fun o11 => (rec28 (x4 + 1) o11.1 o11.2.1 o11.2.2))) else none) else (zc (md_Way_trace N v_p4_length f_p4_row f7 a3_x) (fun o10 => (some (f6, f7, o10.1, o10.2))))) else none)))
def md_Rin_find (N : Nat) (f_p0_queue : Nat → Int32) (f_p0_before : Nat → Int32) (f_p1_needCounts : Nat → Int32) (g_p1_needed : Nat → Nat → Int32) (v_p4_length : Int32) (f_p4_row : Nat → Int32) (a2_x : Int32) (a3_x : Int32) : Option ((Nat → Int32) × (Nat → Int32) × Int32 × (Nat → Int32)) :=
  (zc (md_JA_fill2 N 27 f_p0_before (-1 : Int32)) (fun o1 => (if sg_in a2_x 27 = true then zl (upd o1 a2_x.toNatClampNeg (0 : Int32)) (fun f2 => (if sg_in (0 : Int32) 26 = true then zl (upd f_p0_queue (0 : Int32).toNatClampNeg a2_x) (fun f3 => (fx4 (md_Rin_find_F28 f_p1_needCounts g_p1_needed v_p4_length f_p4_row a3_x N) N (0 : Int32) (1 : Int32) f3 f2)) else none)) else none)))
abbrev sc_Rin_find (cI cL cM cZ : ClassId) (q_p0 q_p1 q_p4 q_p0_queue q_p0_before q_p1_numbers q_p1_needCounts q_p1_needed q_p1_conditions q_p1_allNeeded q_p4_row : Nat) (d_p1_needed : Nat → Nat) (f_p0_queue : Nat → Int32) (f_p0_before : Nat → Int32) (v_p1_jobs : Int32) (f_p1_needCounts : Nat → Int32) (g_p1_needed : Nat → Nat → Int32) (v_p4_length : Int32) (f_p4_row : Nat → Int32) : List va_W := [[(q_p0, .inr (6, [.ref q_p0_queue, .ref q_p0_before]))], [(q_p0_queue, .inl (cI, 26, .inl f_p0_queue))], [(q_p0_before, .inl (cI, 27, .inl f_p0_before))], [(q_p1, .inr (4, [.ref q_p1_numbers, .ref q_p1_needCounts, .ref q_p1_needed, .ref q_p1_conditions, .ref q_p1_allNeeded, .int v_p1_jobs]))], [(q_p1_needCounts, .inl (cI, 27, .inl f_p1_needCounts))], [(q_p1_needed, .inl (cM, gro 27 d_p1_needed))], gl cI d_p1_needed 27 20 g_p1_needed, [(q_p4, .inr (8, [.ref q_p4_row, .int v_p4_length]))], [(q_p4_row, .inl (cI, 26, .inl f_p4_row))]]
abbrev rm_Rin_find : Room := { frames := 1, cells := 0, slots := 0, locals := 26 }
set_option maxHeartbeats 4000000 in
set_option maxRecDepth 100000 in
theorem ct_Rin_find (l : Launch) (dC : Nat → ClassId) (dI : Nat → Nat → Nat) (cI cL cM cZ : ClassId) (q_p0 q_p1 q_p4 q_p0_queue q_p0_before q_p1_numbers q_p1_needCounts q_p1_needed q_p1_conditions q_p1_allNeeded q_p4_row : Nat) (d_p1_needed : Nat → Nat) (f_p0_queue : Nat → Int32) (f_p0_before : Nat → Int32) (v_p1_jobs : Int32) (f_p1_needCounts : Nat → Int32) (g_p1_needed : Nat → Nat → Int32) (v_p4_length : Int32) (f_p4_row : Nat → Int32) (a2_x : Int32) (a3_x : Int32) (N : Nat) (o : (Nat → Int32) × (Nat → Int32) × Int32 × (Nat → Int32)) (hm : md_Rin_find N f_p0_queue f_p0_before f_p1_needCounts g_p1_needed v_p4_length f_p4_row a2_x a3_x = some o) : ∀ sz : Nat, Met l y_Rin_find ws_Rin_find rm_Rin_find (cP (dC, dI) vwCl [(cI, .int), (cL, .long), (cM, .array .int), (cZ, .boolean)] [.ref q_p0, .ref q_p1, .int a2_x, .int a3_x, .ref q_p4] sz (sc_Rin_find cI cL cM cZ q_p0 q_p1 q_p4 q_p0_queue q_p0_before q_p1_numbers q_p1_needCounts q_p1_needed q_p1_conditions q_p1_allNeeded q_p4_row d_p1_needed f_p0_queue f_p0_before v_p1_jobs f_p1_needCounts g_p1_needed v_p4_length f_p4_row)) (cQv (dC, dI) vwCl [(cI, .int), (cL, .long), (cM, .array .int), (cZ, .boolean)] sz (sc_Rin_find cI cL cM cZ q_p0 q_p1 q_p4 q_p0_queue q_p0_before q_p1_numbers q_p1_needCounts q_p1_needed q_p1_conditions q_p1_allNeeded q_p4_row d_p1_needed f_p0_queue f_p0_before v_p1_jobs f_p1_needCounts g_p1_needed v_p4_length f_p4_row) (sc_Rin_find cI cL cM cZ q_p0 q_p1 q_p4 q_p0_queue q_p0_before q_p1_numbers q_p1_needCounts q_p1_needed q_p1_conditions q_p1_allNeeded q_p4_row d_p1_needed o.1 o.2.1 v_p1_jobs f_p1_needCounts g_p1_needed o.2.2.1 o.2.2.2)) 0 0 (va_A ((sc_Rin_find cI cL cM cZ q_p0 q_p1 q_p4 q_p0_queue q_p0_before q_p1_numbers q_p1_needCounts q_p1_needed q_p1_conditions q_p1_allNeeded q_p4_row d_p1_needed f_p0_queue f_p0_before v_p1_jobs f_p1_needCounts g_p1_needed v_p4_length f_p4_row)).flatten sz) := by
  refine sg_met (fun sz => cQv (dC, dI) vwCl [(cI, .int), (cL, .long), (cM, .array .int), (cZ, .boolean)] sz (sc_Rin_find cI cL cM cZ q_p0 q_p1 q_p4 q_p0_queue q_p0_before q_p1_numbers q_p1_needCounts q_p1_needed q_p1_conditions q_p1_allNeeded q_p4_row d_p1_needed f_p0_queue f_p0_before v_p1_jobs f_p1_needCounts g_p1_needed v_p4_length f_p4_row) (sc_Rin_find cI cL cM cZ q_p0 q_p1 q_p4 q_p0_queue q_p0_before q_p1_numbers q_p1_needCounts q_p1_needed q_p1_conditions q_p1_allNeeded q_p4_row d_p1_needed o.1 o.2.1 v_p1_jobs f_p1_needCounts g_p1_needed o.2.2.1 o.2.2.2)) (by decide) (Nat.le_of_ble_eq_true rfl) ?_
  intro p e s m args below meth c A Q ls hx hb hr hts hown hlocks hml hname hK hNW hA hAe hQ hw hl
  have hl : lv_has ls 7 [(0, .ref q_p0), (1, .ref q_p1), (2, .int a2_x), (3, .int a3_x), (4, .ref q_p4)] := hl
  have hw : wk (dC, dI) vwCl A s.heap [[(q_p0, .inr (6, [.ref q_p0_queue, .ref q_p0_before]))], [(q_p0_queue, .inl (cI, 26, .inl f_p0_queue))], [(q_p0_before, .inl (cI, 27, .inl f_p0_before))], [(q_p1, .inr (4, [.ref q_p1_numbers, .ref q_p1_needCounts, .ref q_p1_needed, .ref q_p1_conditions, .ref q_p1_allNeeded, .int v_p1_jobs]))], [(q_p1_needCounts, .inl (cI, 27, .inl f_p1_needCounts))], [(q_p1_needed, .inl (cM, gro 27 d_p1_needed))], gl cI d_p1_needed 27 20 g_p1_needed, [(q_p4, .inr (8, [.ref q_p4_row, .int v_p4_length]))], [(q_p4_row, .inl (cI, 26, .inl f_p4_row))]] s.heap [] := hw
  unfold md_Rin_find at hm
  refine lv_aload_n hx hb d_Rin_find_0 rfl (lv_at hl 0 rfl) ?_
  refine sg_get (D := (dC, dI)) (ci := 6) (v := .ref q_p0_before) (C := "JobNets$RingFinder") (T := T_6) (N := 2) hx hb hts hin_6 hown hK hw 0 rfl rfl 1 (by decide) (hts _ wd_152) rfl rfl d_Rin_find_1 ?_
  refine lv_iconst (v := -1) hx hb d_Rin_find_4 (by decide) ?_
  obtain ⟨o1, h1, hm⟩ := zc_x hm
  refine sg_cv0 (Sr := [[(q_p0, .inr (6, [.ref q_p0_queue, .ref q_p0_before]))], [(q_p0_queue, .inl (cI, 26, .inl f_p0_queue))], [(q_p1, .inr (4, [.ref q_p1_numbers, .ref q_p1_needCounts, .ref q_p1_needed, .ref q_p1_conditions, .ref q_p1_allNeeded, .int v_p1_jobs]))], [(q_p1_needCounts, .inl (cI, 27, .inl f_p1_needCounts))], [(q_p1_needed, .inl (cM, gro 27 d_p1_needed))], gl cI d_p1_needed 27 20 g_p1_needed, [(q_p4, .inr (8, [.ref q_p4_row, .int v_p4_length]))], [(q_p4_row, .inl (cI, 26, .inl f_p4_row))]]) (va_runS (As := [.ref q_p0_before, .int (-1 : Int32)]) (rest := []) ⟨hx, hb, hml, hown, hts⟩ (ct_JA_fill2 l dC dI cI cL cM cZ q_p0_before 27 f_p0_before (-1 : Int32) N o1 h1 _) (va_cwS 2 hts (gd_T wd_334 wd_271 wd_11 wd_272) rfl rfl rfl (by decide +kernel) ⟨Nat.le_of_ble_eq_true rfl, Nat.le_of_ble_eq_true rfl⟩) (sg_preS hK hNW hw [2] rfl rfl) rfl rfl hl.1 rfl (lv_room (Nat.le_of_ble_eq_true rfl)) d_Rin_find_5 ⟨Nat.le_of_ble_eq_true rfl, Nat.le_of_ble_eq_true rfl⟩) hw hA [2] [0, 1, 3, 4, 5, 6, 7, 8] rfl rfl rfl (by decide) (fun H locs hw => ?_)
  have hw : wk (dC, dI) vwCl A s.heap [[(q_p0, .inr (6, [.ref q_p0_queue, .ref q_p0_before]))], [(q_p0_queue, .inl (cI, 26, .inl f_p0_queue))], [(q_p1, .inr (4, [.ref q_p1_numbers, .ref q_p1_needCounts, .ref q_p1_needed, .ref q_p1_conditions, .ref q_p1_allNeeded, .int v_p1_jobs]))], [(q_p1_needCounts, .inl (cI, 27, .inl f_p1_needCounts))], [(q_p1_needed, .inl (cM, gro 27 d_p1_needed))], gl cI d_p1_needed 27 20 g_p1_needed, [(q_p4, .inr (8, [.ref q_p4_row, .int v_p4_length]))], [(q_p4_row, .inl (cI, 26, .inl f_p4_row))], [(q_p0_before, .inl (cI, 27, .inl o1))]] H locs := hw
  refine lv_aload_n hx hb d_Rin_find_8 rfl (lv_at hl 0 rfl) ?_
  refine sg_get (D := (dC, dI)) (ci := 6) (v := .ref q_p0_before) (C := "JobNets$RingFinder") (T := T_6) (N := 2) hx hb hts hin_6 hown hK hw 0 rfl rfl 1 (by decide) (hts _ wd_152) rfl rfl d_Rin_find_9 ?_
  refine lv_iload_n hx hb d_Rin_find_12 rfl (lv_at hl 2 rfl) ?_
  refine lv_iconst (v := 0) hx hb d_Rin_find_13 (by decide) ?_
  refine sg_iast (S1 := fun f2 => [[(q_p0, .inr (6, [.ref q_p0_queue, .ref q_p0_before]))], [(q_p0_queue, .inl (cI, 26, .inl f_p0_queue))], [(q_p1, .inr (4, [.ref q_p1_numbers, .ref q_p1_needCounts, .ref q_p1_needed, .ref q_p1_conditions, .ref q_p1_allNeeded, .int v_p1_jobs]))], [(q_p1_needCounts, .inl (cI, 27, .inl f_p1_needCounts))], [(q_p1_needed, .inl (cM, gro 27 d_p1_needed))], gl cI d_p1_needed 27 20 g_p1_needed, [(q_p4, .inr (8, [.ref q_p4_row, .int v_p4_length]))], [(q_p4_row, .inl (cI, 26, .inl f_p4_row))], [(q_p0_before, .inl (cI, 27, .inl f2))]]) hx hb hK hw 8 0 rfl rfl d_Rin_find_14 (fun _ => rfl) hm (fun f2 H locs hm hw => ?_)
  refine lv_aload_n hx hb d_Rin_find_15 rfl (lv_at hl 0 rfl) ?_
  refine sg_get (D := (dC, dI)) (ci := 6) (v := .ref q_p0_queue) (C := "JobNets$RingFinder") (T := T_6) (N := 2) hx hb hts hin_6 hown hK hw 0 rfl rfl 0 (by decide) (hts _ wd_151) rfl rfl d_Rin_find_16 ?_
  refine lv_iconst (v := 0) hx hb d_Rin_find_19 (by decide) ?_
  refine lv_iload_n hx hb d_Rin_find_20 rfl (lv_at hl 2 rfl) ?_
  refine sg_iast (S1 := fun f3 => [[(q_p0, .inr (6, [.ref q_p0_queue, .ref q_p0_before]))], [(q_p0_queue, .inl (cI, 26, .inl f3))], [(q_p1, .inr (4, [.ref q_p1_numbers, .ref q_p1_needCounts, .ref q_p1_needed, .ref q_p1_conditions, .ref q_p1_allNeeded, .int v_p1_jobs]))], [(q_p1_needCounts, .inl (cI, 27, .inl f_p1_needCounts))], [(q_p1_needed, .inl (cM, gro 27 d_p1_needed))], gl cI d_p1_needed 27 20 g_p1_needed, [(q_p4, .inr (8, [.ref q_p4_row, .int v_p4_length]))], [(q_p4_row, .inl (cI, 26, .inl f_p4_row))], [(q_p0_before, .inl (cI, 27, .inl f2))]]) hx hb hK hw 1 0 rfl rfl d_Rin_find_21 (fun _ => rfl) hm (fun f3 H locs hm hw => ?_)
  refine lv_iconst (v := 1) hx hb d_Rin_find_22 (by decide) ?_
  refine lv_istore (lv' := [(5, .int (1 : Int32)), (0, .ref q_p0), (1, .ref q_p1), (2, .int a2_x), (3, .int a3_x), (4, .ref q_p4)]) hx hb d_Rin_find_23 hl (by decide) rfl (fun ls hl => ?_)
  refine lv_iconst (v := 0) hx hb d_Rin_find_25 (by decide) ?_
  refine lv_istore (lv' := [(6, .int (0 : Int32)), (5, .int (1 : Int32)), (0, .ref q_p0), (1, .ref q_p1), (2, .int a2_x), (3, .int a3_x), (4, .ref q_p4)]) hx hb d_Rin_find_26 hl (by decide) rfl (fun ls hl => ?_)
  obtain ⟨Fn28, hFn28, hm⟩ := fx4_x hm
  have L28 : ∀ (n : Nat) (x4 : Int32) (x5 : Int32) (f6 : Nat → Int32) (f7 : Nat → Int32), fx4 Fn28 n x4 x5 f6 f7 = some o → ∀ (H : Heap) (locs : List Loc) (ls : Array Slot), wk (dC, dI) vwCl A s.heap [[(q_p0, .inr (6, [.ref q_p0_queue, .ref q_p0_before]))], [(q_p0_queue, .inl (cI, 26, .inl f6))], [(q_p1, .inr (4, [.ref q_p1_numbers, .ref q_p1_needCounts, .ref q_p1_needed, .ref q_p1_conditions, .ref q_p1_allNeeded, .int v_p1_jobs]))], [(q_p1_needCounts, .inl (cI, 27, .inl f_p1_needCounts))], [(q_p1_needed, .inl (cM, gro 27 d_p1_needed))], gl cI d_p1_needed 27 20 g_p1_needed, [(q_p4, .inr (8, [.ref q_p4_row, .int v_p4_length]))], [(q_p4_row, .inl (cI, 26, .inl f_p4_row))], [(q_p0_before, .inl (cI, 27, .inl f7))]] H locs → lv_has ls 7 [(6, .int x4), (5, .int x5), (0, .ref q_p0), (1, .ref q_p1), (3, .int a3_x), (4, .ref q_p4)] → W p l e rm_Rin_find s m args below meth c H locs 0 0 Q (F0 m 28 ls []) := by
    intro n
    induction n with
    | zero => intro x4 x5 f6 f7 hm; exact (fx4_0 hm).elim
    | succ n ih28 =>
      intro x4 x5 f6 f7 hm H locs ls hw hl
      have hm := fx4_s hFn28 hm
      unfold md_Rin_find_F28 at hm
      refine lv_iload hx hb d_Rin_find_28 (lv_at hl 0 rfl) ?_
      refine lv_bipush (v := 26) hx hb d_Rin_find_30 (by decide) ?_
      refine bq_t (lv_icmp_ge (tgt := 74) hx hb d_Rin_find_32 (by decide)) hm (fun hm => ?_) (fun hm => ?_)
      · refine lv_aload hx hb d_Rin_find_74 (lv_at hl 5 rfl) ?_
        refine lv_aload_n hx hb d_Rin_find_76 rfl (lv_at hl 2 rfl) ?_
        refine sg_get (D := (dC, dI)) (ci := 6) (v := .ref q_p0_before) (C := "JobNets$RingFinder") (T := T_6) (N := 2) hx hb hts hin_6 hown hK hw 0 rfl rfl 1 (by decide) (hts _ wd_152) rfl rfl d_Rin_find_77 ?_
        refine lv_iload_n hx hb d_Rin_find_80 rfl (lv_at hl 4 rfl) ?_
        obtain ⟨o8, h8, hm⟩ := zc_x hm
        refine sg_cv0 (Sr := [[(q_p0, .inr (6, [.ref q_p0_queue, .ref q_p0_before]))], [(q_p0_queue, .inl (cI, 26, .inl f6))], [(q_p1, .inr (4, [.ref q_p1_numbers, .ref q_p1_needCounts, .ref q_p1_needed, .ref q_p1_conditions, .ref q_p1_allNeeded, .int v_p1_jobs]))], [(q_p1_needCounts, .inl (cI, 27, .inl f_p1_needCounts))], [(q_p1_needed, .inl (cM, gro 27 d_p1_needed))], gl cI d_p1_needed 27 20 g_p1_needed]) (va_runV (As := [.ref q_p0_before, .int a3_x]) (rest := []) ⟨hx, hb, hml, hown, hts⟩ (ct_Way_trace l dC dI cI cL cM cZ q_p4 q_p0_before q_p4_row v_p4_length f_p4_row f7 a3_x N o8 h8 _) (cwV 2 hts (gd_V wd_339 wd_340 wd_341 wd_6 wd_342) rfl rfl rfl (by decide +kernel) ⟨Nat.le_of_ble_eq_true rfl, Nat.le_of_ble_eq_true rfl⟩) (sg_preV (ci := 8) (q0 := 6) hK hNW hw [6, 7, 8] rfl rfl rfl rfl) rfl rfl hl.1 rfl (lv_room (Nat.le_of_ble_eq_true rfl)) d_Rin_find_81 ⟨Nat.le_of_ble_eq_true rfl, Nat.le_of_ble_eq_true rfl⟩) hw hA [6, 7, 8] [0, 1, 2, 3, 4, 5] rfl rfl rfl (by decide) (fun H locs hw => ?_)
        have hw : wk (dC, dI) vwCl A s.heap [[(q_p0, .inr (6, [.ref q_p0_queue, .ref q_p0_before]))], [(q_p0_queue, .inl (cI, 26, .inl f6))], [(q_p1, .inr (4, [.ref q_p1_numbers, .ref q_p1_needCounts, .ref q_p1_needed, .ref q_p1_conditions, .ref q_p1_allNeeded, .int v_p1_jobs]))], [(q_p1_needCounts, .inl (cI, 27, .inl f_p1_needCounts))], [(q_p1_needed, .inl (cM, gro 27 d_p1_needed))], gl cI d_p1_needed 27 20 g_p1_needed, [(q_p4, .inr (8, [.ref q_p4_row, .int o8.1]))], [(q_p4_row, .inl (cI, 26, .inl o8.2))], [(q_p0_before, .inl (cI, 27, .inl f7))]] H locs := hw
        exact so_vret (Sf := fun z_ => sc_Rin_find cI cL cM cZ q_p0 q_p1 q_p4 q_p0_queue q_p0_before q_p1_numbers q_p1_needCounts q_p1_needed q_p1_conditions q_p1_allNeeded q_p4_row d_p1_needed z_.1 z_.2.1 v_p1_jobs f_p1_needCounts g_p1_needed z_.2.2.1 z_.2.2.2) hm hx hb hr hlocks hAe hQ hK (hw.sub [0, 1, 8, 2, 3, 4, 5, 6, 7] (by decide) rfl) d_Rin_find_84
      · refine lv_iload hx hb d_Rin_find_35 (lv_at hl 0 rfl) ?_
        refine lv_iload hx hb d_Rin_find_37 (lv_at hl 1 rfl) ?_
        refine bq_t (lv_icmp_ge (tgt := 74) hx hb d_Rin_find_39 (by decide)) hm (fun hm => ?_) (fun hm => ?_)
        · refine lv_aload hx hb d_Rin_find_74 (lv_at hl 5 rfl) ?_
          refine lv_aload_n hx hb d_Rin_find_76 rfl (lv_at hl 2 rfl) ?_
          refine sg_get (D := (dC, dI)) (ci := 6) (v := .ref q_p0_before) (C := "JobNets$RingFinder") (T := T_6) (N := 2) hx hb hts hin_6 hown hK hw 0 rfl rfl 1 (by decide) (hts _ wd_152) rfl rfl d_Rin_find_77 ?_
          refine lv_iload_n hx hb d_Rin_find_80 rfl (lv_at hl 4 rfl) ?_
          obtain ⟨o9, h9, hm⟩ := zc_x hm
          refine sg_cv0 (Sr := [[(q_p0, .inr (6, [.ref q_p0_queue, .ref q_p0_before]))], [(q_p0_queue, .inl (cI, 26, .inl f6))], [(q_p1, .inr (4, [.ref q_p1_numbers, .ref q_p1_needCounts, .ref q_p1_needed, .ref q_p1_conditions, .ref q_p1_allNeeded, .int v_p1_jobs]))], [(q_p1_needCounts, .inl (cI, 27, .inl f_p1_needCounts))], [(q_p1_needed, .inl (cM, gro 27 d_p1_needed))], gl cI d_p1_needed 27 20 g_p1_needed]) (va_runV (As := [.ref q_p0_before, .int a3_x]) (rest := []) ⟨hx, hb, hml, hown, hts⟩ (ct_Way_trace l dC dI cI cL cM cZ q_p4 q_p0_before q_p4_row v_p4_length f_p4_row f7 a3_x N o9 h9 _) (cwV 2 hts (gd_V wd_339 wd_340 wd_341 wd_6 wd_342) rfl rfl rfl (by decide +kernel) ⟨Nat.le_of_ble_eq_true rfl, Nat.le_of_ble_eq_true rfl⟩) (sg_preV (ci := 8) (q0 := 6) hK hNW hw [6, 7, 8] rfl rfl rfl rfl) rfl rfl hl.1 rfl (lv_room (Nat.le_of_ble_eq_true rfl)) d_Rin_find_81 ⟨Nat.le_of_ble_eq_true rfl, Nat.le_of_ble_eq_true rfl⟩) hw hA [6, 7, 8] [0, 1, 2, 3, 4, 5] rfl rfl rfl (by decide) (fun H locs hw => ?_)
          have hw : wk (dC, dI) vwCl A s.heap [[(q_p0, .inr (6, [.ref q_p0_queue, .ref q_p0_before]))], [(q_p0_queue, .inl (cI, 26, .inl f6))], [(q_p1, .inr (4, [.ref q_p1_numbers, .ref q_p1_needCounts, .ref q_p1_needed, .ref q_p1_conditions, .ref q_p1_allNeeded, .int v_p1_jobs]))], [(q_p1_needCounts, .inl (cI, 27, .inl f_p1_needCounts))], [(q_p1_needed, .inl (cM, gro 27 d_p1_needed))], gl cI d_p1_needed 27 20 g_p1_needed, [(q_p4, .inr (8, [.ref q_p4_row, .int o9.1]))], [(q_p4_row, .inl (cI, 26, .inl o9.2))], [(q_p0_before, .inl (cI, 27, .inl f7))]] H locs := hw
          exact so_vret (Sf := fun z_ => sc_Rin_find cI cL cM cZ q_p0 q_p1 q_p4 q_p0_queue q_p0_before q_p1_numbers q_p1_needCounts q_p1_needed q_p1_conditions q_p1_allNeeded q_p4_row d_p1_needed z_.1 z_.2.1 v_p1_jobs f_p1_needCounts g_p1_needed z_.2.2.1 z_.2.2.2) hm hx hb hr hlocks hAe hQ hK (hw.sub [0, 1, 8, 2, 3, 4, 5, 6, 7] (by decide) rfl) d_Rin_find_84
        · refine lv_aload_n hx hb d_Rin_find_42 rfl (lv_at hl 2 rfl) ?_
          refine sg_get (D := (dC, dI)) (ci := 6) (v := .ref q_p0_before) (C := "JobNets$RingFinder") (T := T_6) (N := 2) hx hb hts hin_6 hown hK hw 0 rfl rfl 1 (by decide) (hts _ wd_152) rfl rfl d_Rin_find_43 ?_
          refine lv_iload_n hx hb d_Rin_find_46 rfl (lv_at hl 4 rfl) ?_
          refine sg_iald hx hb hK hw 8 0 rfl rfl d_Rin_find_47 hm (fun hm => ?_)
          refine lv_iconst (v := -1) hx hb d_Rin_find_48 (by decide) ?_
          refine bq_n (lv_icmp_ne (tgt := 74) hx hb d_Rin_find_49 (by decide)) hm (fun hm => ?_) (fun hm => ?_)
          · refine lv_aload hx hb d_Rin_find_74 (lv_at hl 5 rfl) ?_
            refine lv_aload_n hx hb d_Rin_find_76 rfl (lv_at hl 2 rfl) ?_
            refine sg_get (D := (dC, dI)) (ci := 6) (v := .ref q_p0_before) (C := "JobNets$RingFinder") (T := T_6) (N := 2) hx hb hts hin_6 hown hK hw 0 rfl rfl 1 (by decide) (hts _ wd_152) rfl rfl d_Rin_find_77 ?_
            refine lv_iload_n hx hb d_Rin_find_80 rfl (lv_at hl 4 rfl) ?_
            obtain ⟨o10, h10, hm⟩ := zc_x hm
            refine sg_cv0 (Sr := [[(q_p0, .inr (6, [.ref q_p0_queue, .ref q_p0_before]))], [(q_p0_queue, .inl (cI, 26, .inl f6))], [(q_p1, .inr (4, [.ref q_p1_numbers, .ref q_p1_needCounts, .ref q_p1_needed, .ref q_p1_conditions, .ref q_p1_allNeeded, .int v_p1_jobs]))], [(q_p1_needCounts, .inl (cI, 27, .inl f_p1_needCounts))], [(q_p1_needed, .inl (cM, gro 27 d_p1_needed))], gl cI d_p1_needed 27 20 g_p1_needed]) (va_runV (As := [.ref q_p0_before, .int a3_x]) (rest := []) ⟨hx, hb, hml, hown, hts⟩ (ct_Way_trace l dC dI cI cL cM cZ q_p4 q_p0_before q_p4_row v_p4_length f_p4_row f7 a3_x N o10 h10 _) (cwV 2 hts (gd_V wd_339 wd_340 wd_341 wd_6 wd_342) rfl rfl rfl (by decide +kernel) ⟨Nat.le_of_ble_eq_true rfl, Nat.le_of_ble_eq_true rfl⟩) (sg_preV (ci := 8) (q0 := 6) hK hNW hw [6, 7, 8] rfl rfl rfl rfl) rfl rfl hl.1 rfl (lv_room (Nat.le_of_ble_eq_true rfl)) d_Rin_find_81 ⟨Nat.le_of_ble_eq_true rfl, Nat.le_of_ble_eq_true rfl⟩) hw hA [6, 7, 8] [0, 1, 2, 3, 4, 5] rfl rfl rfl (by decide) (fun H locs hw => ?_)
            have hw : wk (dC, dI) vwCl A s.heap [[(q_p0, .inr (6, [.ref q_p0_queue, .ref q_p0_before]))], [(q_p0_queue, .inl (cI, 26, .inl f6))], [(q_p1, .inr (4, [.ref q_p1_numbers, .ref q_p1_needCounts, .ref q_p1_needed, .ref q_p1_conditions, .ref q_p1_allNeeded, .int v_p1_jobs]))], [(q_p1_needCounts, .inl (cI, 27, .inl f_p1_needCounts))], [(q_p1_needed, .inl (cM, gro 27 d_p1_needed))], gl cI d_p1_needed 27 20 g_p1_needed, [(q_p4, .inr (8, [.ref q_p4_row, .int o10.1]))], [(q_p4_row, .inl (cI, 26, .inl o10.2))], [(q_p0_before, .inl (cI, 27, .inl f7))]] H locs := hw
            exact so_vret (Sf := fun z_ => sc_Rin_find cI cL cM cZ q_p0 q_p1 q_p4 q_p0_queue q_p0_before q_p1_numbers q_p1_needCounts q_p1_needed q_p1_conditions q_p1_allNeeded q_p4_row d_p1_needed z_.1 z_.2.1 v_p1_jobs f_p1_needCounts g_p1_needed z_.2.2.1 z_.2.2.2) hm hx hb hr hlocks hAe hQ hK (hw.sub [0, 1, 8, 2, 3, 4, 5, 6, 7] (by decide) rfl) d_Rin_find_84
          · refine lv_aload_n hx hb d_Rin_find_52 rfl (lv_at hl 2 rfl) ?_
            refine lv_aload_n hx hb d_Rin_find_53 rfl (lv_at hl 3 rfl) ?_
            refine lv_aload_n hx hb d_Rin_find_54 rfl (lv_at hl 2 rfl) ?_
            refine sg_get (D := (dC, dI)) (ci := 6) (v := .ref q_p0_queue) (C := "JobNets$RingFinder") (T := T_6) (N := 2) hx hb hts hin_6 hown hK hw 0 rfl rfl 0 (by decide) (hts _ wd_151) rfl rfl d_Rin_find_55 ?_
            refine lv_iload hx hb d_Rin_find_58 (lv_at hl 0 rfl) ?_
            refine sg_iald hx hb hK hw 1 0 rfl rfl d_Rin_find_60 hm (fun hm => ?_)
            refine lv_iload hx hb d_Rin_find_61 (lv_at hl 1 rfl) ?_
            obtain ⟨o11, h11, hm⟩ := zc_x hm
            refine sg_ci0 (Sr := [[(q_p4, .inr (8, [.ref q_p4_row, .int v_p4_length]))], [(q_p4_row, .inl (cI, 26, .inl f_p4_row))]]) (va_runV (As := [.ref q_p1, .int (f6 x4.toNatClampNeg), .int x5]) (rest := []) ⟨hx, hb, hml, hown, hts⟩ (ct_Rin_queueNeeded l dC dI cI cL cM cZ q_p0 q_p1 q_p0_queue q_p0_before q_p1_numbers q_p1_needCounts q_p1_needed q_p1_conditions q_p1_allNeeded d_p1_needed f6 f7 v_p1_jobs f_p1_needCounts g_p1_needed (f6 x4.toNatClampNeg) x5 N o11 h11 _) (cwV 3 hts (gd_V wd_335 wd_337 ws_8 wd_7 wd_338) rfl rfl rfl (by decide +kernel) ⟨Nat.le_of_ble_eq_true rfl, Nat.le_of_ble_eq_true rfl⟩) (sg_preV (ci := 6) (q0 := 0) hK hNW hw [0, 1, 8, 2, 3, 4, 5] rfl rfl rfl rfl) rfl rfl hl.1 rfl (lv_room (Nat.le_of_ble_eq_true rfl)) d_Rin_find_63 ⟨Nat.le_of_ble_eq_true rfl, Nat.le_of_ble_eq_true rfl⟩) hw hA [0, 1, 8, 2, 3, 4, 5] [6, 7] rfl rfl rfl (by decide) (fun H locs hw => ?_)
            have hw : wk (dC, dI) vwCl A s.heap [[(q_p4, .inr (8, [.ref q_p4_row, .int v_p4_length]))], [(q_p4_row, .inl (cI, 26, .inl f_p4_row))], [(q_p0, .inr (6, [.ref q_p0_queue, .ref q_p0_before]))], [(q_p0_queue, .inl (cI, 26, .inl o11.2.1))], [(q_p0_before, .inl (cI, 27, .inl o11.2.2))], [(q_p1, .inr (4, [.ref q_p1_numbers, .ref q_p1_needCounts, .ref q_p1_needed, .ref q_p1_conditions, .ref q_p1_allNeeded, .int v_p1_jobs]))], [(q_p1_needCounts, .inl (cI, 27, .inl f_p1_needCounts))], [(q_p1_needed, .inl (cM, gro 27 d_p1_needed))], gl cI d_p1_needed 27 20 g_p1_needed] H locs := hw
            refine lv_istore (lv' := [(5, .int o11.1), (6, .int x4), (0, .ref q_p0), (1, .ref q_p1), (3, .int a3_x), (4, .ref q_p4)]) hx hb d_Rin_find_66 hl (by decide) rfl (fun ls hl => ?_)
            refine lv_iinc (v := x4 + 1) (lv' := [(6, .int (x4 + 1)), (5, .int o11.1), (0, .ref q_p0), (1, .ref q_p1), (3, .int a3_x), (4, .ref q_p4)]) hx hb d_Rin_find_68 hl (k := 1) rfl rfl (by decide) rfl (fun ls hl => ?_)
            refine lv_goto (tgt := 28) hx hb d_Rin_find_71 (by decide) ?_
            exact ih28 (x4 + 1) o11.1 o11.2.1 o11.2.2 hm _ _ _ (hw.sub [2, 3, 5, 6, 7, 8, 0, 1, 4] (by decide) rfl) hl
  exact L28 _ _ _ _ _ hm _ _ _ hw (lv_sub hl [0, 1, 2, 3, 5, 6] rfl)
theorem d_Tex_parseNeed_0 : decode prog_8_method_9_code 0 = .ok (.aload_n 0, 1) := by decide +kernel
theorem d_Tex_parseNeed_1 : decode prog_8_method_9_code 1 = .ok (.invokevirtual 51, 3) := by decide +kernel
theorem d_Tex_parseNeed_4 : decode prog_8_method_9_code 4 = .ok (.aload_n 0, 1) := by decide +kernel
theorem d_Tex_parseNeed_5 : decode prog_8_method_9_code 5 = .ok (.invokevirtual 62, 3) := by decide +kernel
theorem d_Tex_parseNeed_8 : decode prog_8_method_9_code 8 = .ok (.iconst (-1), 1) := by decide +kernel
theorem d_Tex_parseNeed_9 : decode prog_8_method_9_code 9 = .ok (.if_icmp .eq 15, 3) := by decide +kernel
theorem d_Tex_parseNeed_12 : decode prog_8_method_9_code 12 = .ok (.aload_n 0, 1) := by decide +kernel
theorem d_Tex_parseNeed_13 : decode prog_8_method_9_code 13 = .ok (.getfield 27, 3) := by decide +kernel
theorem d_Tex_parseNeed_16 : decode prog_8_method_9_code 16 = .ok (.aload_n 0, 1) := by decide +kernel
theorem d_Tex_parseNeed_17 : decode prog_8_method_9_code 17 = .ok (.getfield 18, 3) := by decide +kernel
theorem d_Tex_parseNeed_20 : decode prog_8_method_9_code 20 = .ok (.arraylength, 1) := by decide +kernel
theorem d_Tex_parseNeed_21 : decode prog_8_method_9_code 21 = .ok (.if_icmp .lt 5, 3) := by decide +kernel
theorem d_Tex_parseNeed_24 : decode prog_8_method_9_code 24 = .ok (.iconst 0, 1) := by decide +kernel
theorem d_Tex_parseNeed_25 : decode prog_8_method_9_code 25 = .ok (.ireturn, 1) := by decide +kernel
theorem d_Tex_parseNeed_26 : decode prog_8_method_9_code 26 = .ok (.aload_n 0, 1) := by decide +kernel
theorem d_Tex_parseNeed_27 : decode prog_8_method_9_code 27 = .ok (.getfield 18, 3) := by decide +kernel
theorem d_Tex_parseNeed_30 : decode prog_8_method_9_code 30 = .ok (.aload_n 0, 1) := by decide +kernel
theorem d_Tex_parseNeed_31 : decode prog_8_method_9_code 31 = .ok (.getfield 27, 3) := by decide +kernel
theorem d_Tex_parseNeed_34 : decode prog_8_method_9_code 34 = .ok (.iload_n 1, 1) := by decide +kernel
theorem d_Tex_parseNeed_35 : decode prog_8_method_9_code 35 = .ok (.iastore, 1) := by decide +kernel
theorem d_Tex_parseNeed_36 : decode prog_8_method_9_code 36 = .ok (.aload_n 0, 1) := by decide +kernel
theorem d_Tex_parseNeed_37 : decode prog_8_method_9_code 37 = .ok (.getfield 21, 3) := by decide +kernel
theorem d_Tex_parseNeed_40 : decode prog_8_method_9_code 40 = .ok (.aload_n 0, 1) := by decide +kernel
theorem d_Tex_parseNeed_41 : decode prog_8_method_9_code 41 = .ok (.getfield 27, 3) := by decide +kernel
theorem d_Tex_parseNeed_44 : decode prog_8_method_9_code 44 = .ok (.aload_n 0, 1) := by decide +kernel
theorem d_Tex_parseNeed_45 : decode prog_8_method_9_code 45 = .ok (.getfield 34, 3) := by decide +kernel
theorem d_Tex_parseNeed_48 : decode prog_8_method_9_code 48 = .ok (.iastore, 1) := by decide +kernel
theorem d_Tex_parseNeed_49 : decode prog_8_method_9_code 49 = .ok (.aload_n 0, 1) := by decide +kernel
theorem d_Tex_parseNeed_50 : decode prog_8_method_9_code 50 = .ok (.dup, 1) := by decide +kernel
theorem d_Tex_parseNeed_51 : decode prog_8_method_9_code 51 = .ok (.getfield 34, 3) := by decide +kernel
theorem d_Tex_parseNeed_54 : decode prog_8_method_9_code 54 = .ok (.iconst 1, 1) := by decide +kernel
theorem d_Tex_parseNeed_55 : decode prog_8_method_9_code 55 = .ok (.iadd, 1) := by decide +kernel
theorem d_Tex_parseNeed_56 : decode prog_8_method_9_code 56 = .ok (.putfield 34, 3) := by decide +kernel
theorem d_Tex_parseNeed_59 : decode prog_8_method_9_code 59 = .ok (.aload_n 0, 1) := by decide +kernel
theorem d_Tex_parseNeed_60 : decode prog_8_method_9_code 60 = .ok (.invokevirtual 51, 3) := by decide +kernel
theorem d_Tex_parseNeed_63 : decode prog_8_method_9_code 63 = .ok (.aload_n 0, 1) := by decide +kernel
theorem d_Tex_parseNeed_64 : decode prog_8_method_9_code 64 = .ok (.getfield 24, 3) := by decide +kernel
theorem d_Tex_parseNeed_67 : decode prog_8_method_9_code 67 = .ok (.aload_n 0, 1) := by decide +kernel
theorem d_Tex_parseNeed_68 : decode prog_8_method_9_code 68 = .ok (.getfield 27, 3) := by decide +kernel
theorem d_Tex_parseNeed_71 : decode prog_8_method_9_code 71 = .ok (.aload_n 0, 1) := by decide +kernel
theorem d_Tex_parseNeed_72 : decode prog_8_method_9_code 72 = .ok (.bipush 33, 2) := by decide +kernel
theorem d_Tex_parseNeed_74 : decode prog_8_method_9_code 74 = .ok (.invokevirtual 81, 3) := by decide +kernel
theorem d_Tex_parseNeed_77 : decode prog_8_method_9_code 77 = .ok (.ifCond .eq 7, 3) := by decide +kernel
theorem d_Tex_parseNeed_80 : decode prog_8_method_9_code 80 = .ok (.iconst 1, 1) := by decide +kernel
theorem d_Tex_parseNeed_81 : decode prog_8_method_9_code 81 = .ok (.goto 17, 3) := by decide +kernel
theorem d_Tex_parseNeed_84 : decode prog_8_method_9_code 84 = .ok (.aload_n 0, 1) := by decide +kernel
theorem d_Tex_parseNeed_85 : decode prog_8_method_9_code 85 = .ok (.bipush 63, 2) := by decide +kernel
theorem d_Tex_parseNeed_87 : decode prog_8_method_9_code 87 = .ok (.invokevirtual 81, 3) := by decide +kernel
theorem d_Tex_parseNeed_90 : decode prog_8_method_9_code 90 = .ok (.ifCond .eq 7, 3) := by decide +kernel
theorem d_Tex_parseNeed_93 : decode prog_8_method_9_code 93 = .ok (.iconst 2, 1) := by decide +kernel
theorem d_Tex_parseNeed_94 : decode prog_8_method_9_code 94 = .ok (.goto 4, 3) := by decide +kernel
theorem d_Tex_parseNeed_97 : decode prog_8_method_9_code 97 = .ok (.iconst 0, 1) := by decide +kernel
theorem d_Tex_parseNeed_98 : decode prog_8_method_9_code 98 = .ok (.iastore, 1) := by decide +kernel
theorem d_Tex_parseNeed_99 : decode prog_8_method_9_code 99 = .ok (.aload_n 0, 1) := by decide +kernel
theorem d_Tex_parseNeed_100 : decode prog_8_method_9_code 100 = .ok (.getfield 24, 3) := by decide +kernel
theorem d_Tex_parseNeed_103 : decode prog_8_method_9_code 103 = .ok (.aload_n 0, 1) := by decide +kernel
theorem d_Tex_parseNeed_104 : decode prog_8_method_9_code 104 = .ok (.getfield 27, 3) := by decide +kernel
theorem d_Tex_parseNeed_107 : decode prog_8_method_9_code 107 = .ok (.iaload, 1) := by decide +kernel
theorem d_Tex_parseNeed_108 : decode prog_8_method_9_code 108 = .ok (.ifCond .eq 13, 3) := by decide +kernel
theorem d_Tex_parseNeed_111 : decode prog_8_method_9_code 111 = .ok (.aload_n 0, 1) := by decide +kernel
theorem d_Tex_parseNeed_112 : decode prog_8_method_9_code 112 = .ok (.dup, 1) := by decide +kernel
theorem d_Tex_parseNeed_113 : decode prog_8_method_9_code 113 = .ok (.getfield 34, 3) := by decide +kernel
theorem d_Tex_parseNeed_116 : decode prog_8_method_9_code 116 = .ok (.iconst 1, 1) := by decide +kernel
theorem d_Tex_parseNeed_117 : decode prog_8_method_9_code 117 = .ok (.iadd, 1) := by decide +kernel
theorem d_Tex_parseNeed_118 : decode prog_8_method_9_code 118 = .ok (.putfield 34, 3) := by decide +kernel
theorem d_Tex_parseNeed_121 : decode prog_8_method_9_code 121 = .ok (.aload_n 0, 1) := by decide +kernel
theorem d_Tex_parseNeed_122 : decode prog_8_method_9_code 122 = .ok (.dup, 1) := by decide +kernel
theorem d_Tex_parseNeed_123 : decode prog_8_method_9_code 123 = .ok (.getfield 27, 3) := by decide +kernel
theorem d_Tex_parseNeed_126 : decode prog_8_method_9_code 126 = .ok (.iconst 1, 1) := by decide +kernel
theorem d_Tex_parseNeed_127 : decode prog_8_method_9_code 127 = .ok (.iadd, 1) := by decide +kernel
theorem d_Tex_parseNeed_128 : decode prog_8_method_9_code 128 = .ok (.putfield 27, 3) := by decide +kernel
theorem d_Tex_parseNeed_131 : decode prog_8_method_9_code 131 = .ok (.iconst 1, 1) := by decide +kernel
theorem d_Tex_parseNeed_132 : decode prog_8_method_9_code 132 = .ok (.ireturn, 1) := by decide +kernel
def md_Tex_parseNeed (N : Nat) (v_p0_pending : Int32) (v_p0_length : Int32) (v_p0_at : Int32) (f_p0_text : Nat → Int32) (f_p0_owners : Nat → Int32) (f_p0_namePlaces : Nat → Int32) (f_p0_conditions : Nat → Int32) (a1_x : Int32) : Option (Int32 × Int32 × Int32 × (Nat → Int32) × (Nat → Int32) × (Nat → Int32)) :=
  (zc (md_Tex_skipBlanks N v_p0_length v_p0_at f_p0_text) (fun o1 => (zc (md_Tex_letterHere N v_p0_length o1 f_p0_text) (fun o2 => (if o2 = (-1 : Int32) then (some ((0 : Int32), v_p0_pending, o1, f_p0_owners, f_p0_namePlaces, f_p0_conditions)) else (if v_p0_pending < (520 : Int32) then (if sg_in v_p0_pending 520 = true then zl (upd f_p0_owners v_p0_pending.toNatClampNeg a1_x) (fun f3 => (if sg_in v_p0_pending 520 = true then zl (upd f_p0_namePlaces v_p0_pending.toNatClampNeg o1) (fun f4 => (zc (md_Tex_skipBlanks N v_p0_length (o1 + (1 : Int32)) f_p0_text) (fun o5 => (zc (md_Tex_isHere N v_p0_length o5 f_p0_text (33 : Int32)) (fun o6 => (zl (fun (x7 : Int32) (x8 : Int32) => (if sg_in x8 520 = true then zl (upd f_p0_conditions x8.toNatClampNeg x7) (fun f9 => (if sg_in v_p0_pending 520 = true then (if (f9 v_p0_pending.toNatClampNeg) = 0 then (some ((1 : Int32), v_p0_pending + (1 : Int32), o5, f3, f4, f9)) else (some ((1 : Int32), v_p0_pending + (1 : Int32), o5 + (1 : Int32), f3, f4, f9))) else none)) else none)) (fun k98 => (if o6 = 0 then (zc (md_Tex_isHere N v_p0_length o5 f_p0_text (63 : Int32)) (fun o10 => (if o10 = 0 then (k98 (0 : Int32) v_p0_pending) else (k98 (2 : Int32) v_p0_pending)))) else (k98 (1 : Int32) v_p0_pending))))))))) else none)) else none) else (some ((0 : Int32), v_p0_pending, o1, f_p0_owners, f_p0_namePlaces, f_p0_conditions))))))))
abbrev sc_Tex_parseNeed (cI cL cM cZ : ClassId) (q_p0 q_p0_text q_p0_jobOfLetter q_p0_owners q_p0_namePlaces q_p0_conditions : Nat) (v_p0_pending : Int32) (v_p0_length : Int32) (v_p0_at : Int32) (v_p0_number : Int32) (f_p0_text : Nat → Int32) (f_p0_owners : Nat → Int32) (f_p0_namePlaces : Nat → Int32) (f_p0_conditions : Nat → Int32) : List va_W := [[(q_p0, .inr (7, [.ref q_p0_text, .ref q_p0_jobOfLetter, .ref q_p0_owners, .ref q_p0_namePlaces, .ref q_p0_conditions, .int v_p0_pending, .int v_p0_length, .int v_p0_at, .int v_p0_number]))], [(q_p0_text, .inl (cI, 2000, .inl f_p0_text))], [(q_p0_owners, .inl (cI, 520, .inl f_p0_owners))], [(q_p0_namePlaces, .inl (cI, 520, .inl f_p0_namePlaces))], [(q_p0_conditions, .inl (cI, 520, .inl f_p0_conditions))]]
abbrev rm_Tex_parseNeed : Room := { frames := 1, cells := 0, slots := 0, locals := 21 }
set_option maxHeartbeats 4000000 in
set_option maxRecDepth 100000 in
theorem ct_Tex_parseNeed (l : Launch) (dC : Nat → ClassId) (dI : Nat → Nat → Nat) (cI cL cM cZ : ClassId) (q_p0 q_p0_text q_p0_jobOfLetter q_p0_owners q_p0_namePlaces q_p0_conditions : Nat) (v_p0_pending : Int32) (v_p0_length : Int32) (v_p0_at : Int32) (v_p0_number : Int32) (f_p0_text : Nat → Int32) (f_p0_owners : Nat → Int32) (f_p0_namePlaces : Nat → Int32) (f_p0_conditions : Nat → Int32) (a1_x : Int32) (N : Nat) (o : Int32 × Int32 × Int32 × (Nat → Int32) × (Nat → Int32) × (Nat → Int32)) (hm : md_Tex_parseNeed N v_p0_pending v_p0_length v_p0_at f_p0_text f_p0_owners f_p0_namePlaces f_p0_conditions a1_x = some o) : ∀ sz : Nat, Met l y_Tex_parseNeed ws_Tex_parseNeed rm_Tex_parseNeed (cP (dC, dI) vwCl [(cI, .int), (cL, .long), (cM, .array .int), (cZ, .boolean)] [.ref q_p0, .int a1_x] sz (sc_Tex_parseNeed cI cL cM cZ q_p0 q_p0_text q_p0_jobOfLetter q_p0_owners q_p0_namePlaces q_p0_conditions v_p0_pending v_p0_length v_p0_at v_p0_number f_p0_text f_p0_owners f_p0_namePlaces f_p0_conditions)) (cQi (dC, dI) vwCl [(cI, .int), (cL, .long), (cM, .array .int), (cZ, .boolean)] sz (sc_Tex_parseNeed cI cL cM cZ q_p0 q_p0_text q_p0_jobOfLetter q_p0_owners q_p0_namePlaces q_p0_conditions v_p0_pending v_p0_length v_p0_at v_p0_number f_p0_text f_p0_owners f_p0_namePlaces f_p0_conditions) o.1 (sc_Tex_parseNeed cI cL cM cZ q_p0 q_p0_text q_p0_jobOfLetter q_p0_owners q_p0_namePlaces q_p0_conditions o.2.1 v_p0_length o.2.2.1 v_p0_number f_p0_text o.2.2.2.1 o.2.2.2.2.1 o.2.2.2.2.2)) 0 0 (va_A ((sc_Tex_parseNeed cI cL cM cZ q_p0 q_p0_text q_p0_jobOfLetter q_p0_owners q_p0_namePlaces q_p0_conditions v_p0_pending v_p0_length v_p0_at v_p0_number f_p0_text f_p0_owners f_p0_namePlaces f_p0_conditions)).flatten sz) := by
  refine sg_met (fun sz => cQi (dC, dI) vwCl [(cI, .int), (cL, .long), (cM, .array .int), (cZ, .boolean)] sz (sc_Tex_parseNeed cI cL cM cZ q_p0 q_p0_text q_p0_jobOfLetter q_p0_owners q_p0_namePlaces q_p0_conditions v_p0_pending v_p0_length v_p0_at v_p0_number f_p0_text f_p0_owners f_p0_namePlaces f_p0_conditions) o.1 (sc_Tex_parseNeed cI cL cM cZ q_p0 q_p0_text q_p0_jobOfLetter q_p0_owners q_p0_namePlaces q_p0_conditions o.2.1 v_p0_length o.2.2.1 v_p0_number f_p0_text o.2.2.2.1 o.2.2.2.2.1 o.2.2.2.2.2)) (by decide) (Nat.le_of_ble_eq_true rfl) ?_
  intro p e s m args below meth c A Q ls hx hb hr hts hown hlocks hml hname hK hNW hA hAe hQ hw hl
  have hl : lv_has ls 2 [(0, .ref q_p0), (1, .int a1_x)] := hl
  have hw : wk (dC, dI) vwCl A s.heap [[(q_p0, .inr (7, [.ref q_p0_text, .ref q_p0_jobOfLetter, .ref q_p0_owners, .ref q_p0_namePlaces, .ref q_p0_conditions, .int v_p0_pending, .int v_p0_length, .int v_p0_at, .int v_p0_number]))], [(q_p0_text, .inl (cI, 2000, .inl f_p0_text))], [(q_p0_owners, .inl (cI, 520, .inl f_p0_owners))], [(q_p0_namePlaces, .inl (cI, 520, .inl f_p0_namePlaces))], [(q_p0_conditions, .inl (cI, 520, .inl f_p0_conditions))]] s.heap [] := hw
  unfold md_Tex_parseNeed at hm
  refine lv_aload_n hx hb d_Tex_parseNeed_0 rfl (lv_at hl 0 rfl) ?_
  obtain ⟨o1, h1, hm⟩ := zc_x hm
  refine sg_cv0 (Sr := [[(q_p0_owners, .inl (cI, 520, .inl f_p0_owners))], [(q_p0_namePlaces, .inl (cI, 520, .inl f_p0_namePlaces))], [(q_p0_conditions, .inl (cI, 520, .inl f_p0_conditions))]]) (va_runV (As := []) (rest := []) ⟨hx, hb, hml, hown, hts⟩ (ct_Tex_skipBlanks l dC dI cI cL cM cZ q_p0 q_p0_text q_p0_jobOfLetter q_p0_owners q_p0_namePlaces q_p0_conditions v_p0_pending v_p0_length v_p0_at v_p0_number f_p0_text N o1 h1 _) (cwV 0 hts (gd_V wd_274 wd_276 ws_0 wd_3 wd_277) rfl rfl rfl (by decide +kernel) ⟨Nat.le_of_ble_eq_true rfl, Nat.le_of_ble_eq_true rfl⟩) (sg_preV (ci := 7) (q0 := 0) hK hNW hw [0, 1] rfl rfl rfl rfl) rfl rfl hl.1 rfl (lv_room (Nat.le_of_ble_eq_true rfl)) d_Tex_parseNeed_1 ⟨Nat.le_of_ble_eq_true rfl, Nat.le_of_ble_eq_true rfl⟩) hw hA [0, 1] [2, 3, 4] rfl rfl rfl (by decide) (fun H locs hw => ?_)
  have hw : wk (dC, dI) vwCl A s.heap [[(q_p0_owners, .inl (cI, 520, .inl f_p0_owners))], [(q_p0_namePlaces, .inl (cI, 520, .inl f_p0_namePlaces))], [(q_p0_conditions, .inl (cI, 520, .inl f_p0_conditions))], [(q_p0, .inr (7, [.ref q_p0_text, .ref q_p0_jobOfLetter, .ref q_p0_owners, .ref q_p0_namePlaces, .ref q_p0_conditions, .int v_p0_pending, .int v_p0_length, .int o1, .int v_p0_number]))], [(q_p0_text, .inl (cI, 2000, .inl f_p0_text))]] H locs := hw
  refine lv_aload_n hx hb d_Tex_parseNeed_4 rfl (lv_at hl 0 rfl) ?_
  obtain ⟨o2, h2, hm⟩ := zc_x hm
  refine sg_ci0 (Sr := [[(q_p0_owners, .inl (cI, 520, .inl f_p0_owners))], [(q_p0_namePlaces, .inl (cI, 520, .inl f_p0_namePlaces))], [(q_p0_conditions, .inl (cI, 520, .inl f_p0_conditions))]]) (va_runV (As := []) (rest := []) ⟨hx, hb, hml, hown, hts⟩ (ct_Tex_letterHere l dC dI cI cL cM cZ q_p0 q_p0_text q_p0_jobOfLetter q_p0_owners q_p0_namePlaces q_p0_conditions v_p0_pending v_p0_length o1 v_p0_number f_p0_text N o2 h2 _) (cwV 0 hts (gd_V wd_282 wd_284 ws_2 wd_3 wd_285) rfl rfl rfl (by decide +kernel) ⟨Nat.le_of_ble_eq_true rfl, Nat.le_of_ble_eq_true rfl⟩) (sg_preV (ci := 7) (q0 := 3) hK hNW hw [3, 4] rfl rfl rfl rfl) rfl rfl hl.1 rfl (lv_room (Nat.le_of_ble_eq_true rfl)) d_Tex_parseNeed_5 ⟨Nat.le_of_ble_eq_true rfl, Nat.le_of_ble_eq_true rfl⟩) hw hA [3, 4] [0, 1, 2] rfl rfl rfl (by decide) (fun H locs hw => ?_)
  have hw : wk (dC, dI) vwCl A s.heap [[(q_p0_owners, .inl (cI, 520, .inl f_p0_owners))], [(q_p0_namePlaces, .inl (cI, 520, .inl f_p0_namePlaces))], [(q_p0_conditions, .inl (cI, 520, .inl f_p0_conditions))], [(q_p0, .inr (7, [.ref q_p0_text, .ref q_p0_jobOfLetter, .ref q_p0_owners, .ref q_p0_namePlaces, .ref q_p0_conditions, .int v_p0_pending, .int v_p0_length, .int o1, .int v_p0_number]))], [(q_p0_text, .inl (cI, 2000, .inl f_p0_text))]] H locs := hw
  refine lv_iconst (v := -1) hx hb d_Tex_parseNeed_8 (by decide) ?_
  refine bq_t (lv_icmp_eq (tgt := 24) hx hb d_Tex_parseNeed_9 (by decide)) hm (fun hm => ?_) (fun hm => ?_)
  · refine lv_iconst (v := 0) hx hb d_Tex_parseNeed_24 (by decide) ?_
    exact so_zret (rf := fun z_ => z_.1) (Sf := fun z_ => sc_Tex_parseNeed cI cL cM cZ q_p0 q_p0_text q_p0_jobOfLetter q_p0_owners q_p0_namePlaces q_p0_conditions z_.2.1 v_p0_length z_.2.2.1 v_p0_number f_p0_text z_.2.2.2.1 z_.2.2.2.2.1 z_.2.2.2.2.2) hm hx hb hr rfl hlocks hAe hQ hK (hw.sub [3, 4, 0, 1, 2] (by decide) rfl) rfl d_Tex_parseNeed_25
  · refine lv_aload_n hx hb d_Tex_parseNeed_12 rfl (lv_at hl 0 rfl) ?_
    refine sg_get (D := (dC, dI)) (ci := 7) (v := .int v_p0_pending) (C := "JobNets$TextReader") (T := T_7) (N := 9) hx hb hts hin_7 hown hK hw 3 rfl rfl 5 (by decide) (hts _ wd_61) rfl rfl d_Tex_parseNeed_13 ?_
    refine lv_aload_n hx hb d_Tex_parseNeed_16 rfl (lv_at hl 0 rfl) ?_
    refine sg_get (D := (dC, dI)) (ci := 7) (v := .ref q_p0_owners) (C := "JobNets$TextReader") (T := T_7) (N := 9) hx hb hts hin_7 hown hK hw 3 rfl rfl 2 (by decide) (hts _ wd_58) rfl rfl d_Tex_parseNeed_17 ?_
    refine sg_alen (v := (520 : Int32)) hx hb hK hw 0 0 rfl rfl rfl d_Tex_parseNeed_20 ?_
    refine bq_t (lv_icmp_lt (tgt := 26) hx hb d_Tex_parseNeed_21 (by decide)) hm (fun hm => ?_) (fun hm => ?_)
    · refine lv_aload_n hx hb d_Tex_parseNeed_26 rfl (lv_at hl 0 rfl) ?_
      refine sg_get (D := (dC, dI)) (ci := 7) (v := .ref q_p0_owners) (C := "JobNets$TextReader") (T := T_7) (N := 9) hx hb hts hin_7 hown hK hw 3 rfl rfl 2 (by decide) (hts _ wd_58) rfl rfl d_Tex_parseNeed_27 ?_
      refine lv_aload_n hx hb d_Tex_parseNeed_30 rfl (lv_at hl 0 rfl) ?_
      refine sg_get (D := (dC, dI)) (ci := 7) (v := .int v_p0_pending) (C := "JobNets$TextReader") (T := T_7) (N := 9) hx hb hts hin_7 hown hK hw 3 rfl rfl 5 (by decide) (hts _ wd_61) rfl rfl d_Tex_parseNeed_31 ?_
      refine lv_iload_n hx hb d_Tex_parseNeed_34 rfl (lv_at hl 1 rfl) ?_
      refine sg_iast (S1 := fun f3 => [[(q_p0_owners, .inl (cI, 520, .inl f3))], [(q_p0_namePlaces, .inl (cI, 520, .inl f_p0_namePlaces))], [(q_p0_conditions, .inl (cI, 520, .inl f_p0_conditions))], [(q_p0, .inr (7, [.ref q_p0_text, .ref q_p0_jobOfLetter, .ref q_p0_owners, .ref q_p0_namePlaces, .ref q_p0_conditions, .int v_p0_pending, .int v_p0_length, .int o1, .int v_p0_number]))], [(q_p0_text, .inl (cI, 2000, .inl f_p0_text))]]) hx hb hK hw 0 0 rfl rfl d_Tex_parseNeed_35 (fun _ => rfl) hm (fun f3 H locs hm hw => ?_)
      refine lv_aload_n hx hb d_Tex_parseNeed_36 rfl (lv_at hl 0 rfl) ?_
      refine sg_get (D := (dC, dI)) (ci := 7) (v := .ref q_p0_namePlaces) (C := "JobNets$TextReader") (T := T_7) (N := 9) hx hb hts hin_7 hown hK hw 3 rfl rfl 3 (by decide) (hts _ wd_59) rfl rfl d_Tex_parseNeed_37 ?_
      refine lv_aload_n hx hb d_Tex_parseNeed_40 rfl (lv_at hl 0 rfl) ?_
      refine sg_get (D := (dC, dI)) (ci := 7) (v := .int v_p0_pending) (C := "JobNets$TextReader") (T := T_7) (N := 9) hx hb hts hin_7 hown hK hw 3 rfl rfl 5 (by decide) (hts _ wd_61) rfl rfl d_Tex_parseNeed_41 ?_
      refine lv_aload_n hx hb d_Tex_parseNeed_44 rfl (lv_at hl 0 rfl) ?_
      refine sg_get (D := (dC, dI)) (ci := 7) (v := .int o1) (C := "JobNets$TextReader") (T := T_7) (N := 9) hx hb hts hin_7 hown hK hw 3 rfl rfl 7 (by decide) (hts _ wd_63) rfl rfl d_Tex_parseNeed_45 ?_
      refine sg_iast (S1 := fun f4 => [[(q_p0_owners, .inl (cI, 520, .inl f3))], [(q_p0_namePlaces, .inl (cI, 520, .inl f4))], [(q_p0_conditions, .inl (cI, 520, .inl f_p0_conditions))], [(q_p0, .inr (7, [.ref q_p0_text, .ref q_p0_jobOfLetter, .ref q_p0_owners, .ref q_p0_namePlaces, .ref q_p0_conditions, .int v_p0_pending, .int v_p0_length, .int o1, .int v_p0_number]))], [(q_p0_text, .inl (cI, 2000, .inl f_p0_text))]]) hx hb hK hw 1 0 rfl rfl d_Tex_parseNeed_48 (fun _ => rfl) hm (fun f4 H locs hm hw => ?_)
      refine lv_aload_n hx hb d_Tex_parseNeed_49 rfl (lv_at hl 0 rfl) ?_
      refine lv_dup hx hb d_Tex_parseNeed_50 rfl ?_
      refine sg_get (D := (dC, dI)) (ci := 7) (v := .int o1) (C := "JobNets$TextReader") (T := T_7) (N := 9) hx hb hts hin_7 hown hK hw 3 rfl rfl 7 (by decide) (hts _ wd_63) rfl rfl d_Tex_parseNeed_51 ?_
      refine lv_iconst (v := 1) hx hb d_Tex_parseNeed_54 (by decide) ?_
      refine lv_iadd hx hb d_Tex_parseNeed_55 ?_
      refine sg_put (D := (dC, dI)) (ci := 7) (v := .int (o1 + (1 : Int32))) (ty := .int) (C := "JobNets$TextReader") (T := T_7) (N := 9) (S1 := [[(q_p0_owners, .inl (cI, 520, .inl f3))], [(q_p0_namePlaces, .inl (cI, 520, .inl f4))], [(q_p0_conditions, .inl (cI, 520, .inl f_p0_conditions))], [(q_p0, .inr (7, [.ref q_p0_text, .ref q_p0_jobOfLetter, .ref q_p0_owners, .ref q_p0_namePlaces, .ref q_p0_conditions, .int v_p0_pending, .int v_p0_length, .int (o1 + (1 : Int32)), .int v_p0_number]))], [(q_p0_text, .inl (cI, 2000, .inl f_p0_text))]]) hx hb hts hin_7 ty_7 tok_7 nd_7 hown hK hw 3 rfl rfl 7 (by decide) (hts _ wd_63) rfl rfl (by decide +kernel) rfl rfl (Nat.le_of_ble_eq_true rfl) rfl d_Tex_parseNeed_56 (fun H locs hw => ?_)
      refine lv_aload_n hx hb d_Tex_parseNeed_59 rfl (lv_at hl 0 rfl) ?_
      obtain ⟨o5, h5, hm⟩ := zc_x hm
      refine sg_cv0 (Sr := [[(q_p0_owners, .inl (cI, 520, .inl f3))], [(q_p0_namePlaces, .inl (cI, 520, .inl f4))], [(q_p0_conditions, .inl (cI, 520, .inl f_p0_conditions))]]) (va_runV (As := []) (rest := []) ⟨hx, hb, hml, hown, hts⟩ (ct_Tex_skipBlanks l dC dI cI cL cM cZ q_p0 q_p0_text q_p0_jobOfLetter q_p0_owners q_p0_namePlaces q_p0_conditions v_p0_pending v_p0_length (o1 + (1 : Int32)) v_p0_number f_p0_text N o5 h5 _) (cwV 0 hts (gd_V wd_274 wd_276 ws_0 wd_3 wd_277) rfl rfl rfl (by decide +kernel) ⟨Nat.le_of_ble_eq_true rfl, Nat.le_of_ble_eq_true rfl⟩) (sg_preV (ci := 7) (q0 := 3) hK hNW hw [3, 4] rfl rfl rfl rfl) rfl rfl hl.1 rfl (lv_room (Nat.le_of_ble_eq_true rfl)) d_Tex_parseNeed_60 ⟨Nat.le_of_ble_eq_true rfl, Nat.le_of_ble_eq_true rfl⟩) hw hA [3, 4] [0, 1, 2] rfl rfl rfl (by decide) (fun H locs hw => ?_)
      have hw : wk (dC, dI) vwCl A s.heap [[(q_p0_owners, .inl (cI, 520, .inl f3))], [(q_p0_namePlaces, .inl (cI, 520, .inl f4))], [(q_p0_conditions, .inl (cI, 520, .inl f_p0_conditions))], [(q_p0, .inr (7, [.ref q_p0_text, .ref q_p0_jobOfLetter, .ref q_p0_owners, .ref q_p0_namePlaces, .ref q_p0_conditions, .int v_p0_pending, .int v_p0_length, .int o5, .int v_p0_number]))], [(q_p0_text, .inl (cI, 2000, .inl f_p0_text))]] H locs := hw
      refine lv_aload_n hx hb d_Tex_parseNeed_63 rfl (lv_at hl 0 rfl) ?_
      refine sg_get (D := (dC, dI)) (ci := 7) (v := .ref q_p0_conditions) (C := "JobNets$TextReader") (T := T_7) (N := 9) hx hb hts hin_7 hown hK hw 3 rfl rfl 4 (by decide) (hts _ wd_60) rfl rfl d_Tex_parseNeed_64 ?_
      refine lv_aload_n hx hb d_Tex_parseNeed_67 rfl (lv_at hl 0 rfl) ?_
      refine sg_get (D := (dC, dI)) (ci := 7) (v := .int v_p0_pending) (C := "JobNets$TextReader") (T := T_7) (N := 9) hx hb hts hin_7 hown hK hw 3 rfl rfl 5 (by decide) (hts _ wd_61) rfl rfl d_Tex_parseNeed_68 ?_
      refine lv_aload_n hx hb d_Tex_parseNeed_71 rfl (lv_at hl 0 rfl) ?_
      refine lv_bipush (v := 33) hx hb d_Tex_parseNeed_72 (by decide) ?_
      obtain ⟨o6, h6, hm⟩ := zc_x hm
      refine sg_ci0 (Sr := [[(q_p0_owners, .inl (cI, 520, .inl f3))], [(q_p0_namePlaces, .inl (cI, 520, .inl f4))], [(q_p0_conditions, .inl (cI, 520, .inl f_p0_conditions))]]) (va_runV (As := [.int (33 : Int32)]) (rest := [.int v_p0_pending, .ref q_p0_conditions]) ⟨hx, hb, hml, hown, hts⟩ (ct_Tex_isHere l dC dI cI cL cM cZ q_p0 q_p0_text q_p0_jobOfLetter q_p0_owners q_p0_namePlaces q_p0_conditions v_p0_pending v_p0_length o5 v_p0_number f_p0_text (33 : Int32) N o6 h6 _) (cwV 1 hts (gd_V wd_294 wd_296 ws_5 wd_3 wd_297) rfl rfl rfl (by decide +kernel) ⟨Nat.le_of_ble_eq_true rfl, Nat.le_of_ble_eq_true rfl⟩) (sg_preV (ci := 7) (q0 := 3) hK hNW hw [3, 4] rfl rfl rfl rfl) rfl rfl hl.1 rfl (lv_room (Nat.le_of_ble_eq_true rfl)) d_Tex_parseNeed_74 ⟨Nat.le_of_ble_eq_true rfl, Nat.le_of_ble_eq_true rfl⟩) hw hA [3, 4] [0, 1, 2] rfl rfl rfl (by decide) (fun H locs hw => ?_)
      have hw : wk (dC, dI) vwCl A s.heap [[(q_p0_owners, .inl (cI, 520, .inl f3))], [(q_p0_namePlaces, .inl (cI, 520, .inl f4))], [(q_p0_conditions, .inl (cI, 520, .inl f_p0_conditions))], [(q_p0, .inr (7, [.ref q_p0_text, .ref q_p0_jobOfLetter, .ref q_p0_owners, .ref q_p0_namePlaces, .ref q_p0_conditions, .int v_p0_pending, .int v_p0_length, .int o5, .int v_p0_number]))], [(q_p0_text, .inl (cI, 2000, .inl f_p0_text))]] H locs := hw
      obtain ⟨k98, hk98, hm⟩ := zl_x hm
      have J98 : ∀ (x7 : Int32) (x8 : Int32) , k98 x7 x8 = some o → ∀ (H : Heap) (locs : List Loc) (ls : Array Slot), wk (dC, dI) vwCl A s.heap [[(q_p0_owners, .inl (cI, 520, .inl f3))], [(q_p0_namePlaces, .inl (cI, 520, .inl f4))], [(q_p0_conditions, .inl (cI, 520, .inl f_p0_conditions))], [(q_p0, .inr (7, [.ref q_p0_text, .ref q_p0_jobOfLetter, .ref q_p0_owners, .ref q_p0_namePlaces, .ref q_p0_conditions, .int v_p0_pending, .int v_p0_length, .int o5, .int v_p0_number]))], [(q_p0_text, .inl (cI, 2000, .inl f_p0_text))]] H locs → lv_has ls 2 [(0, .ref q_p0)] → W p l e rm_Tex_parseNeed s m args below meth c H locs 0 0 Q (F0 m 98 ls [.int x7, .int x8, .ref q_p0_conditions]) := by
        intro x7 x8 hm H locs ls hw hl
        subst hk98
        refine sg_iast (S1 := fun f9 => [[(q_p0_owners, .inl (cI, 520, .inl f3))], [(q_p0_namePlaces, .inl (cI, 520, .inl f4))], [(q_p0_conditions, .inl (cI, 520, .inl f9))], [(q_p0, .inr (7, [.ref q_p0_text, .ref q_p0_jobOfLetter, .ref q_p0_owners, .ref q_p0_namePlaces, .ref q_p0_conditions, .int v_p0_pending, .int v_p0_length, .int o5, .int v_p0_number]))], [(q_p0_text, .inl (cI, 2000, .inl f_p0_text))]]) hx hb hK hw 2 0 rfl rfl d_Tex_parseNeed_98 (fun _ => rfl) hm (fun f9 H locs hm hw => ?_)
        refine lv_aload_n hx hb d_Tex_parseNeed_99 rfl (lv_at hl 0 rfl) ?_
        refine sg_get (D := (dC, dI)) (ci := 7) (v := .ref q_p0_conditions) (C := "JobNets$TextReader") (T := T_7) (N := 9) hx hb hts hin_7 hown hK hw 3 rfl rfl 4 (by decide) (hts _ wd_60) rfl rfl d_Tex_parseNeed_100 ?_
        refine lv_aload_n hx hb d_Tex_parseNeed_103 rfl (lv_at hl 0 rfl) ?_
        refine sg_get (D := (dC, dI)) (ci := 7) (v := .int v_p0_pending) (C := "JobNets$TextReader") (T := T_7) (N := 9) hx hb hts hin_7 hown hK hw 3 rfl rfl 5 (by decide) (hts _ wd_61) rfl rfl d_Tex_parseNeed_104 ?_
        refine sg_iald hx hb hK hw 2 0 rfl rfl d_Tex_parseNeed_107 hm (fun hm => ?_)
        refine bq_t (lv_if_eq (tgt := 121) hx hb d_Tex_parseNeed_108 (by decide)) hm (fun hm => ?_) (fun hm => ?_)
        · refine lv_aload_n hx hb d_Tex_parseNeed_121 rfl (lv_at hl 0 rfl) ?_
          refine lv_dup hx hb d_Tex_parseNeed_122 rfl ?_
          refine sg_get (D := (dC, dI)) (ci := 7) (v := .int v_p0_pending) (C := "JobNets$TextReader") (T := T_7) (N := 9) hx hb hts hin_7 hown hK hw 3 rfl rfl 5 (by decide) (hts _ wd_61) rfl rfl d_Tex_parseNeed_123 ?_
          refine lv_iconst (v := 1) hx hb d_Tex_parseNeed_126 (by decide) ?_
          refine lv_iadd hx hb d_Tex_parseNeed_127 ?_
          refine sg_put (D := (dC, dI)) (ci := 7) (v := .int (v_p0_pending + (1 : Int32))) (ty := .int) (C := "JobNets$TextReader") (T := T_7) (N := 9) (S1 := [[(q_p0_owners, .inl (cI, 520, .inl f3))], [(q_p0_namePlaces, .inl (cI, 520, .inl f4))], [(q_p0_conditions, .inl (cI, 520, .inl f9))], [(q_p0, .inr (7, [.ref q_p0_text, .ref q_p0_jobOfLetter, .ref q_p0_owners, .ref q_p0_namePlaces, .ref q_p0_conditions, .int (v_p0_pending + (1 : Int32)), .int v_p0_length, .int o5, .int v_p0_number]))], [(q_p0_text, .inl (cI, 2000, .inl f_p0_text))]]) hx hb hts hin_7 ty_7 tok_7 nd_7 hown hK hw 3 rfl rfl 5 (by decide) (hts _ wd_61) rfl rfl (by decide +kernel) rfl rfl (Nat.le_of_ble_eq_true rfl) rfl d_Tex_parseNeed_128 (fun H locs hw => ?_)
          refine lv_iconst (v := 1) hx hb d_Tex_parseNeed_131 (by decide) ?_
          exact so_zret (rf := fun z_ => z_.1) (Sf := fun z_ => sc_Tex_parseNeed cI cL cM cZ q_p0 q_p0_text q_p0_jobOfLetter q_p0_owners q_p0_namePlaces q_p0_conditions z_.2.1 v_p0_length z_.2.2.1 v_p0_number f_p0_text z_.2.2.2.1 z_.2.2.2.2.1 z_.2.2.2.2.2) hm hx hb hr rfl hlocks hAe hQ hK (hw.sub [3, 4, 0, 1, 2] (by decide) rfl) rfl d_Tex_parseNeed_132
        · refine lv_aload_n hx hb d_Tex_parseNeed_111 rfl (lv_at hl 0 rfl) ?_
          refine lv_dup hx hb d_Tex_parseNeed_112 rfl ?_
          refine sg_get (D := (dC, dI)) (ci := 7) (v := .int o5) (C := "JobNets$TextReader") (T := T_7) (N := 9) hx hb hts hin_7 hown hK hw 3 rfl rfl 7 (by decide) (hts _ wd_63) rfl rfl d_Tex_parseNeed_113 ?_
          refine lv_iconst (v := 1) hx hb d_Tex_parseNeed_116 (by decide) ?_
          refine lv_iadd hx hb d_Tex_parseNeed_117 ?_
          refine sg_put (D := (dC, dI)) (ci := 7) (v := .int (o5 + (1 : Int32))) (ty := .int) (C := "JobNets$TextReader") (T := T_7) (N := 9) (S1 := [[(q_p0_owners, .inl (cI, 520, .inl f3))], [(q_p0_namePlaces, .inl (cI, 520, .inl f4))], [(q_p0_conditions, .inl (cI, 520, .inl f9))], [(q_p0, .inr (7, [.ref q_p0_text, .ref q_p0_jobOfLetter, .ref q_p0_owners, .ref q_p0_namePlaces, .ref q_p0_conditions, .int v_p0_pending, .int v_p0_length, .int (o5 + (1 : Int32)), .int v_p0_number]))], [(q_p0_text, .inl (cI, 2000, .inl f_p0_text))]]) hx hb hts hin_7 ty_7 tok_7 nd_7 hown hK hw 3 rfl rfl 7 (by decide) (hts _ wd_63) rfl rfl (by decide +kernel) rfl rfl (Nat.le_of_ble_eq_true rfl) rfl d_Tex_parseNeed_118 (fun H locs hw => ?_)
          refine lv_aload_n hx hb d_Tex_parseNeed_121 rfl (lv_at hl 0 rfl) ?_
          refine lv_dup hx hb d_Tex_parseNeed_122 rfl ?_
          refine sg_get (D := (dC, dI)) (ci := 7) (v := .int v_p0_pending) (C := "JobNets$TextReader") (T := T_7) (N := 9) hx hb hts hin_7 hown hK hw 3 rfl rfl 5 (by decide) (hts _ wd_61) rfl rfl d_Tex_parseNeed_123 ?_
          refine lv_iconst (v := 1) hx hb d_Tex_parseNeed_126 (by decide) ?_
          refine lv_iadd hx hb d_Tex_parseNeed_127 ?_
          refine sg_put (D := (dC, dI)) (ci := 7) (v := .int (v_p0_pending + (1 : Int32))) (ty := .int) (C := "JobNets$TextReader") (T := T_7) (N := 9) (S1 := [[(q_p0_owners, .inl (cI, 520, .inl f3))], [(q_p0_namePlaces, .inl (cI, 520, .inl f4))], [(q_p0_conditions, .inl (cI, 520, .inl f9))], [(q_p0, .inr (7, [.ref q_p0_text, .ref q_p0_jobOfLetter, .ref q_p0_owners, .ref q_p0_namePlaces, .ref q_p0_conditions, .int (v_p0_pending + (1 : Int32)), .int v_p0_length, .int (o5 + (1 : Int32)), .int v_p0_number]))], [(q_p0_text, .inl (cI, 2000, .inl f_p0_text))]]) hx hb hts hin_7 ty_7 tok_7 nd_7 hown hK hw 3 rfl rfl 5 (by decide) (hts _ wd_61) rfl rfl (by decide +kernel) rfl rfl (Nat.le_of_ble_eq_true rfl) rfl d_Tex_parseNeed_128 (fun H locs hw => ?_)
          refine lv_iconst (v := 1) hx hb d_Tex_parseNeed_131 (by decide) ?_
          exact so_zret (rf := fun z_ => z_.1) (Sf := fun z_ => sc_Tex_parseNeed cI cL cM cZ q_p0 q_p0_text q_p0_jobOfLetter q_p0_owners q_p0_namePlaces q_p0_conditions z_.2.1 v_p0_length z_.2.2.1 v_p0_number f_p0_text z_.2.2.2.1 z_.2.2.2.2.1 z_.2.2.2.2.2) hm hx hb hr rfl hlocks hAe hQ hK (hw.sub [3, 4, 0, 1, 2] (by decide) rfl) rfl d_Tex_parseNeed_132
      refine bq_t (lv_if_eq (tgt := 84) hx hb d_Tex_parseNeed_77 (by decide)) hm (fun hm => ?_) (fun hm => ?_)
      · refine lv_aload_n hx hb d_Tex_parseNeed_84 rfl (lv_at hl 0 rfl) ?_
        refine lv_bipush (v := 63) hx hb d_Tex_parseNeed_85 (by decide) ?_
        obtain ⟨o10, h10, hm⟩ := zc_x hm
        refine sg_ci0 (Sr := [[(q_p0_owners, .inl (cI, 520, .inl f3))], [(q_p0_namePlaces, .inl (cI, 520, .inl f4))], [(q_p0_conditions, .inl (cI, 520, .inl f_p0_conditions))]]) (va_runV (As := [.int (63 : Int32)]) (rest := [.int v_p0_pending, .ref q_p0_conditions]) ⟨hx, hb, hml, hown, hts⟩ (ct_Tex_isHere l dC dI cI cL cM cZ q_p0 q_p0_text q_p0_jobOfLetter q_p0_owners q_p0_namePlaces q_p0_conditions v_p0_pending v_p0_length o5 v_p0_number f_p0_text (63 : Int32) N o10 h10 _) (cwV 1 hts (gd_V wd_294 wd_296 ws_5 wd_3 wd_297) rfl rfl rfl (by decide +kernel) ⟨Nat.le_of_ble_eq_true rfl, Nat.le_of_ble_eq_true rfl⟩) (sg_preV (ci := 7) (q0 := 3) hK hNW hw [3, 4] rfl rfl rfl rfl) rfl rfl hl.1 rfl (lv_room (Nat.le_of_ble_eq_true rfl)) d_Tex_parseNeed_87 ⟨Nat.le_of_ble_eq_true rfl, Nat.le_of_ble_eq_true rfl⟩) hw hA [3, 4] [0, 1, 2] rfl rfl rfl (by decide) (fun H locs hw => ?_)
        have hw : wk (dC, dI) vwCl A s.heap [[(q_p0_owners, .inl (cI, 520, .inl f3))], [(q_p0_namePlaces, .inl (cI, 520, .inl f4))], [(q_p0_conditions, .inl (cI, 520, .inl f_p0_conditions))], [(q_p0, .inr (7, [.ref q_p0_text, .ref q_p0_jobOfLetter, .ref q_p0_owners, .ref q_p0_namePlaces, .ref q_p0_conditions, .int v_p0_pending, .int v_p0_length, .int o5, .int v_p0_number]))], [(q_p0_text, .inl (cI, 2000, .inl f_p0_text))]] H locs := hw
        refine bq_t (lv_if_eq (tgt := 97) hx hb d_Tex_parseNeed_90 (by decide)) hm (fun hm => ?_) (fun hm => ?_)
        · refine lv_iconst (v := 0) hx hb d_Tex_parseNeed_97 (by decide) ?_
          exact J98 (0 : Int32) v_p0_pending hm _ _ _ hw (lv_sub hl [0] rfl)
        · refine lv_iconst (v := 2) hx hb d_Tex_parseNeed_93 (by decide) ?_
          refine lv_goto (tgt := 98) hx hb d_Tex_parseNeed_94 (by decide) ?_
          exact J98 (2 : Int32) v_p0_pending hm _ _ _ hw (lv_sub hl [0] rfl)
      · refine lv_iconst (v := 1) hx hb d_Tex_parseNeed_80 (by decide) ?_
        refine lv_goto (tgt := 98) hx hb d_Tex_parseNeed_81 (by decide) ?_
        exact J98 (1 : Int32) v_p0_pending hm _ _ _ hw (lv_sub hl [0] rfl)
    · refine lv_iconst (v := 0) hx hb d_Tex_parseNeed_24 (by decide) ?_
      exact so_zret (rf := fun z_ => z_.1) (Sf := fun z_ => sc_Tex_parseNeed cI cL cM cZ q_p0 q_p0_text q_p0_jobOfLetter q_p0_owners q_p0_namePlaces q_p0_conditions z_.2.1 v_p0_length z_.2.2.1 v_p0_number f_p0_text z_.2.2.2.1 z_.2.2.2.2.1 z_.2.2.2.2.2) hm hx hb hr rfl hlocks hAe hQ hK (hw.sub [3, 4, 0, 1, 2] (by decide) rfl) rfl d_Tex_parseNeed_25
