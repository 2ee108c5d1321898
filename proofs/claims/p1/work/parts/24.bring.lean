theorem d_B_ring_0 : decode prog_11_method_30_code 0 = .ok (.aload_n 0, 1) := by decide +kernel
theorem d_B_ring_1 : decode prog_11_method_30_code 1 = .ok (.iconst 0, 1) := by decide +kernel
theorem d_B_ring_2 : decode prog_11_method_30_code 2 = .ok (.putfield 105, 3) := by decide +kernel
theorem d_B_ring_5 : decode prog_11_method_30_code 5 = .ok (.iload_n 1, 1) := by decide +kernel
theorem d_B_ring_6 : decode prog_11_method_30_code 6 = .ok (.ifCond .lt 20, 3) := by decide +kernel
theorem d_B_ring_9 : decode prog_11_method_30_code 9 = .ok (.iload_n 1, 1) := by decide +kernel
theorem d_B_ring_10 : decode prog_11_method_30_code 10 = .ok (.aload_n 0, 1) := by decide +kernel
theorem d_B_ring_11 : decode prog_11_method_30_code 11 = .ok (.getfield 159, 3) := by decide +kernel
theorem d_B_ring_14 : decode prog_11_method_30_code 14 = .ok (.if_icmp .ge 12, 3) := by decide +kernel
theorem d_B_ring_17 : decode prog_11_method_30_code 17 = .ok (.aload_n 0, 1) := by decide +kernel
theorem d_B_ring_18 : decode prog_11_method_30_code 18 = .ok (.getfield 83, 3) := by decide +kernel
theorem d_B_ring_21 : decode prog_11_method_30_code 21 = .ok (.iload_n 1, 1) := by decide +kernel
theorem d_B_ring_22 : decode prog_11_method_30_code 22 = .ok (.iaload, 1) := by decide +kernel
theorem d_B_ring_23 : decode prog_11_method_30_code 23 = .ok (.goto 4, 3) := by decide +kernel
theorem d_B_ring_26 : decode prog_11_method_30_code 26 = .ok (.iconst 0, 1) := by decide +kernel
theorem d_B_ring_27 : decode prog_11_method_30_code 27 = .ok (.ireturn, 1) := by decide +kernel
def md_B_ring (N : Nat) (v_p0_code : Int32) (v_p0_ringSize : Int32) (f_p0_ring : Nat → Int32) (a1_x : Int32) : Option (Int32 × Int32) :=
  (if a1_x < 0 then (some ((0 : Int32), (0 : Int32))) else (if v_p0_ringSize ≤ a1_x then (some ((0 : Int32), (0 : Int32))) else (if sg_in a1_x 27 = true then (some (f_p0_ring a1_x.toNatClampNeg, (0 : Int32))) else none)))
abbrev sc_B_ring (cI cL cM cZ : ClassId) (q_p0 q_p0_text q_p0_names q_p0_calendars q_p0_priorities q_p0_starts q_p0_estimates q_p0_many q_p0_newNames q_p0_numbers q_p0_newMany q_p0_needs q_p0_conditions q_p0_newNeeds q_p0_newConditions q_p0_needPlaces q_p0_rules q_p0_of q_p0_holidays q_p0_states q_p0_ran q_p0_sums q_p0_kept q_p0_startedJob q_p0_startedAt q_p0_ring q_p0_came q_p0_level q_p0_again q_p0_way q_p0_before q_p0_path : Nat) (v_p0_code : Int32) (v_p0_length : Int32) (v_p0_jobs : Int32) (v_p0_newJobs : Int32) (v_p0_made : Int32) (v_p0_days : Int32) (v_p0_now : Int64) (v_p0_started : Int32) (v_p0_ringSize : Int32) (v_p0_place : Int32) (f_p0_ring : Nat → Int32) : List va_W := [[(q_p0, .inr (9, [.int v_p0_code, .ref q_p0_text, .int v_p0_length, .int v_p0_jobs, .int v_p0_newJobs, .ref q_p0_names, .ref q_p0_calendars, .ref q_p0_priorities, .ref q_p0_starts, .ref q_p0_estimates, .ref q_p0_many, .ref q_p0_newNames, .ref q_p0_numbers, .ref q_p0_newMany, .ref q_p0_needs, .ref q_p0_conditions, .ref q_p0_newNeeds, .ref q_p0_newConditions, .ref q_p0_needPlaces, .ref q_p0_rules, .ref q_p0_of, .int v_p0_made, .ref q_p0_holidays, .int v_p0_days, .ref q_p0_states, .ref q_p0_ran, .ref q_p0_sums, .ref q_p0_kept, .long v_p0_now, .ref q_p0_startedJob, .ref q_p0_startedAt, .int v_p0_started, .ref q_p0_ring, .ref q_p0_came, .ref q_p0_level, .int v_p0_ringSize, .ref q_p0_again, .ref q_p0_way, .ref q_p0_before, .ref q_p0_path, .int v_p0_place]))], [(q_p0_ring, .inl (cI, 27, .inl f_p0_ring))]]
abbrev rm_B_ring : Room := { frames := 0, cells := 0, slots := 0, locals := 0 }
set_option maxHeartbeats 4000000 in
set_option maxRecDepth 100000 in
theorem ct_B_ring (l : Launch) (dC : Nat → ClassId) (dI : Nat → Nat → Nat) (cI cL cM cZ : ClassId) (q_p0 q_p0_text q_p0_names q_p0_calendars q_p0_priorities q_p0_starts q_p0_estimates q_p0_many q_p0_newNames q_p0_numbers q_p0_newMany q_p0_needs q_p0_conditions q_p0_newNeeds q_p0_newConditions q_p0_needPlaces q_p0_rules q_p0_of q_p0_holidays q_p0_states q_p0_ran q_p0_sums q_p0_kept q_p0_startedJob q_p0_startedAt q_p0_ring q_p0_came q_p0_level q_p0_again q_p0_way q_p0_before q_p0_path : Nat) (v_p0_code : Int32) (v_p0_length : Int32) (v_p0_jobs : Int32) (v_p0_newJobs : Int32) (v_p0_made : Int32) (v_p0_days : Int32) (v_p0_now : Int64) (v_p0_started : Int32) (v_p0_ringSize : Int32) (v_p0_place : Int32) (f_p0_ring : Nat → Int32) (a1_x : Int32) (N : Nat) (o : Int32 × Int32) (hm : md_B_ring N v_p0_code v_p0_ringSize f_p0_ring a1_x = some o) : ∀ sz : Nat, Met l y_B_ring ws_B_ring rm_B_ring (cP (dC, dI) vwCl [(cI, .int), (cL, .long), (cM, .array .int), (cZ, .boolean)] [.ref q_p0, .int a1_x] sz (sc_B_ring cI cL cM cZ q_p0 q_p0_text q_p0_names q_p0_calendars q_p0_priorities q_p0_starts q_p0_estimates q_p0_many q_p0_newNames q_p0_numbers q_p0_newMany q_p0_needs q_p0_conditions q_p0_newNeeds q_p0_newConditions q_p0_needPlaces q_p0_rules q_p0_of q_p0_holidays q_p0_states q_p0_ran q_p0_sums q_p0_kept q_p0_startedJob q_p0_startedAt q_p0_ring q_p0_came q_p0_level q_p0_again q_p0_way q_p0_before q_p0_path v_p0_code v_p0_length v_p0_jobs v_p0_newJobs v_p0_made v_p0_days v_p0_now v_p0_started v_p0_ringSize v_p0_place f_p0_ring)) (cQi (dC, dI) vwCl [(cI, .int), (cL, .long), (cM, .array .int), (cZ, .boolean)] sz (sc_B_ring cI cL cM cZ q_p0 q_p0_text q_p0_names q_p0_calendars q_p0_priorities q_p0_starts q_p0_estimates q_p0_many q_p0_newNames q_p0_numbers q_p0_newMany q_p0_needs q_p0_conditions q_p0_newNeeds q_p0_newConditions q_p0_needPlaces q_p0_rules q_p0_of q_p0_holidays q_p0_states q_p0_ran q_p0_sums q_p0_kept q_p0_startedJob q_p0_startedAt q_p0_ring q_p0_came q_p0_level q_p0_again q_p0_way q_p0_before q_p0_path v_p0_code v_p0_length v_p0_jobs v_p0_newJobs v_p0_made v_p0_days v_p0_now v_p0_started v_p0_ringSize v_p0_place f_p0_ring) o.1 (sc_B_ring cI cL cM cZ q_p0 q_p0_text q_p0_names q_p0_calendars q_p0_priorities q_p0_starts q_p0_estimates q_p0_many q_p0_newNames q_p0_numbers q_p0_newMany q_p0_needs q_p0_conditions q_p0_newNeeds q_p0_newConditions q_p0_needPlaces q_p0_rules q_p0_of q_p0_holidays q_p0_states q_p0_ran q_p0_sums q_p0_kept q_p0_startedJob q_p0_startedAt q_p0_ring q_p0_came q_p0_level q_p0_again q_p0_way q_p0_before q_p0_path o.2 v_p0_length v_p0_jobs v_p0_newJobs v_p0_made v_p0_days v_p0_now v_p0_started v_p0_ringSize v_p0_place f_p0_ring)) 0 0 (va_A ((sc_B_ring cI cL cM cZ q_p0 q_p0_text q_p0_names q_p0_calendars q_p0_priorities q_p0_starts q_p0_estimates q_p0_many q_p0_newNames q_p0_numbers q_p0_newMany q_p0_needs q_p0_conditions q_p0_newNeeds q_p0_newConditions q_p0_needPlaces q_p0_rules q_p0_of q_p0_holidays q_p0_states q_p0_ran q_p0_sums q_p0_kept q_p0_startedJob q_p0_startedAt q_p0_ring q_p0_came q_p0_level q_p0_again q_p0_way q_p0_before q_p0_path v_p0_code v_p0_length v_p0_jobs v_p0_newJobs v_p0_made v_p0_days v_p0_now v_p0_started v_p0_ringSize v_p0_place f_p0_ring)).flatten sz) := by
  refine sg_met (fun sz => cQi (dC, dI) vwCl [(cI, .int), (cL, .long), (cM, .array .int), (cZ, .boolean)] sz (sc_B_ring cI cL cM cZ q_p0 q_p0_text q_p0_names q_p0_calendars q_p0_priorities q_p0_starts q_p0_estimates q_p0_many q_p0_newNames q_p0_numbers q_p0_newMany q_p0_needs q_p0_conditions q_p0_newNeeds q_p0_newConditions q_p0_needPlaces q_p0_rules q_p0_of q_p0_holidays q_p0_states q_p0_ran q_p0_sums q_p0_kept q_p0_startedJob q_p0_startedAt q_p0_ring q_p0_came q_p0_level q_p0_again q_p0_way q_p0_before q_p0_path v_p0_code v_p0_length v_p0_jobs v_p0_newJobs v_p0_made v_p0_days v_p0_now v_p0_started v_p0_ringSize v_p0_place f_p0_ring) o.1 (sc_B_ring cI cL cM cZ q_p0 q_p0_text q_p0_names q_p0_calendars q_p0_priorities q_p0_starts q_p0_estimates q_p0_many q_p0_newNames q_p0_numbers q_p0_newMany q_p0_needs q_p0_conditions q_p0_newNeeds q_p0_newConditions q_p0_needPlaces q_p0_rules q_p0_of q_p0_holidays q_p0_states q_p0_ran q_p0_sums q_p0_kept q_p0_startedJob q_p0_startedAt q_p0_ring q_p0_came q_p0_level q_p0_again q_p0_way q_p0_before q_p0_path o.2 v_p0_length v_p0_jobs v_p0_newJobs v_p0_made v_p0_days v_p0_now v_p0_started v_p0_ringSize v_p0_place f_p0_ring)) (by decide) (Nat.le_of_ble_eq_true rfl) ?_
  intro p e s m args below meth c A Q ls hx hb hr hts hown hlocks hml hname hK hNW hA hAe hQ hw hl
  have hl : lv_has ls 2 [(0, .ref q_p0), (1, .int a1_x)] := hl
  have hw : wk (dC, dI) vwCl A s.heap [[(q_p0, .inr (9, [.int v_p0_code, .ref q_p0_text, .int v_p0_length, .int v_p0_jobs, .int v_p0_newJobs, .ref q_p0_names, .ref q_p0_calendars, .ref q_p0_priorities, .ref q_p0_starts, .ref q_p0_estimates, .ref q_p0_many, .ref q_p0_newNames, .ref q_p0_numbers, .ref q_p0_newMany, .ref q_p0_needs, .ref q_p0_conditions, .ref q_p0_newNeeds, .ref q_p0_newConditions, .ref q_p0_needPlaces, .ref q_p0_rules, .ref q_p0_of, .int v_p0_made, .ref q_p0_holidays, .int v_p0_days, .ref q_p0_states, .ref q_p0_ran, .ref q_p0_sums, .ref q_p0_kept, .long v_p0_now, .ref q_p0_startedJob, .ref q_p0_startedAt, .int v_p0_started, .ref q_p0_ring, .ref q_p0_came, .ref q_p0_level, .int v_p0_ringSize, .ref q_p0_again, .ref q_p0_way, .ref q_p0_before, .ref q_p0_path, .int v_p0_place]))], [(q_p0_ring, .inl (cI, 27, .inl f_p0_ring))]] s.heap [] := hw
  unfold md_B_ring at hm
  refine lv_aload_n hx hb d_B_ring_0 rfl (lv_at hl 0 rfl) ?_
  refine lv_iconst (v := 0) hx hb d_B_ring_1 (by decide) ?_
  refine sg_put (D := (dC, dI)) (ci := 9) (v := .int (0 : Int32)) (ty := .int) (C := "JobNetsModel") (T := T_9) (N := 41) (S1 := [[(q_p0, .inr (9, [.int (0 : Int32), .ref q_p0_text, .int v_p0_length, .int v_p0_jobs, .int v_p0_newJobs, .ref q_p0_names, .ref q_p0_calendars, .ref q_p0_priorities, .ref q_p0_starts, .ref q_p0_estimates, .ref q_p0_many, .ref q_p0_newNames, .ref q_p0_numbers, .ref q_p0_newMany, .ref q_p0_needs, .ref q_p0_conditions, .ref q_p0_newNeeds, .ref q_p0_newConditions, .ref q_p0_needPlaces, .ref q_p0_rules, .ref q_p0_of, .int v_p0_made, .ref q_p0_holidays, .int v_p0_days, .ref q_p0_states, .ref q_p0_ran, .ref q_p0_sums, .ref q_p0_kept, .long v_p0_now, .ref q_p0_startedJob, .ref q_p0_startedAt, .int v_p0_started, .ref q_p0_ring, .ref q_p0_came, .ref q_p0_level, .int v_p0_ringSize, .ref q_p0_again, .ref q_p0_way, .ref q_p0_before, .ref q_p0_path, .int v_p0_place]))], [(q_p0_ring, .inl (cI, 27, .inl f_p0_ring))]]) hx hb hts hin_9 ty_9 tok_9 nd_9 hown hK hw 0 rfl rfl 0 (by decide) (hts _ wd_616) rfl rfl (by decide +kernel) rfl rfl (Nat.le_of_ble_eq_true rfl) rfl d_B_ring_2 (fun H locs hw => ?_)
  refine lv_iload_n hx hb d_B_ring_5 rfl (lv_at hl 1 rfl) ?_
  refine bq_t (lv_if_lt (tgt := 26) hx hb d_B_ring_6 (by decide)) hm (fun hm => ?_) (fun hm => ?_)
  · refine lv_iconst (v := 0) hx hb d_B_ring_26 (by decide) ?_
    exact so_iret (rf := fun z_ => z_.1) (Sf := fun z_ => sc_B_ring cI cL cM cZ q_p0 q_p0_text q_p0_names q_p0_calendars q_p0_priorities q_p0_starts q_p0_estimates q_p0_many q_p0_newNames q_p0_numbers q_p0_newMany q_p0_needs q_p0_conditions q_p0_newNeeds q_p0_newConditions q_p0_needPlaces q_p0_rules q_p0_of q_p0_holidays q_p0_states q_p0_ran q_p0_sums q_p0_kept q_p0_startedJob q_p0_startedAt q_p0_ring q_p0_came q_p0_level q_p0_again q_p0_way q_p0_before q_p0_path z_.2 v_p0_length v_p0_jobs v_p0_newJobs v_p0_made v_p0_days v_p0_now v_p0_started v_p0_ringSize v_p0_place f_p0_ring) hm hx hb hr hlocks hAe hQ hK hw rfl d_B_ring_27
  · refine lv_iload_n hx hb d_B_ring_9 rfl (lv_at hl 1 rfl) ?_
    refine lv_aload_n hx hb d_B_ring_10 rfl (lv_at hl 0 rfl) ?_
    refine sg_get (D := (dC, dI)) (ci := 9) (v := .int v_p0_ringSize) (C := "JobNetsModel") (T := T_9) (N := 41) hx hb hts hin_9 hown hK hw 0 rfl rfl 35 (by decide) (hts _ wd_651) rfl rfl d_B_ring_11 ?_
    refine bq_t (lv_icmp_ge (tgt := 26) hx hb d_B_ring_14 (by decide)) hm (fun hm => ?_) (fun hm => ?_)
    · refine lv_iconst (v := 0) hx hb d_B_ring_26 (by decide) ?_
      exact so_iret (rf := fun z_ => z_.1) (Sf := fun z_ => sc_B_ring cI cL cM cZ q_p0 q_p0_text q_p0_names q_p0_calendars q_p0_priorities q_p0_starts q_p0_estimates q_p0_many q_p0_newNames q_p0_numbers q_p0_newMany q_p0_needs q_p0_conditions q_p0_newNeeds q_p0_newConditions q_p0_needPlaces q_p0_rules q_p0_of q_p0_holidays q_p0_states q_p0_ran q_p0_sums q_p0_kept q_p0_startedJob q_p0_startedAt q_p0_ring q_p0_came q_p0_level q_p0_again q_p0_way q_p0_before q_p0_path z_.2 v_p0_length v_p0_jobs v_p0_newJobs v_p0_made v_p0_days v_p0_now v_p0_started v_p0_ringSize v_p0_place f_p0_ring) hm hx hb hr hlocks hAe hQ hK hw rfl d_B_ring_27
    · refine lv_aload_n hx hb d_B_ring_17 rfl (lv_at hl 0 rfl) ?_
      refine sg_get (D := (dC, dI)) (ci := 9) (v := .ref q_p0_ring) (C := "JobNetsModel") (T := T_9) (N := 41) hx hb hts hin_9 hown hK hw 0 rfl rfl 32 (by decide) (hts _ wd_648) rfl rfl d_B_ring_18 ?_
      refine lv_iload_n hx hb d_B_ring_21 rfl (lv_at hl 1 rfl) ?_
      refine sg_iald hx hb hK hw 1 0 rfl rfl d_B_ring_22 hm (fun hm => ?_)
      refine lv_goto (tgt := 27) hx hb d_B_ring_23 (by decide) ?_
      exact so_iret (rf := fun z_ => z_.1) (Sf := fun z_ => sc_B_ring cI cL cM cZ q_p0 q_p0_text q_p0_names q_p0_calendars q_p0_priorities q_p0_starts q_p0_estimates q_p0_many q_p0_newNames q_p0_numbers q_p0_newMany q_p0_needs q_p0_conditions q_p0_newNeeds q_p0_newConditions q_p0_needPlaces q_p0_rules q_p0_of q_p0_holidays q_p0_states q_p0_ran q_p0_sums q_p0_kept q_p0_startedJob q_p0_startedAt q_p0_ring q_p0_came q_p0_level q_p0_again q_p0_way q_p0_before q_p0_path z_.2 v_p0_length v_p0_jobs v_p0_newJobs v_p0_made v_p0_days v_p0_now v_p0_started v_p0_ringSize v_p0_place f_p0_ring) hm hx hb hr hlocks hAe hQ hK hw rfl d_B_ring_27
theorem d_B_critical_0 : decode prog_11_method_31_code 0 = .ok (.aload_n 0, 1) := by decide +kernel
theorem d_B_critical_1 : decode prog_11_method_31_code 1 = .ok (.iconst 0, 1) := by decide +kernel
theorem d_B_critical_2 : decode prog_11_method_31_code 2 = .ok (.putfield 105, 3) := by decide +kernel
theorem d_B_critical_5 : decode prog_11_method_31_code 5 = .ok (.iconst 0, 1) := by decide +kernel
theorem d_B_critical_6 : decode prog_11_method_31_code 6 = .ok (.istore_n 2, 1) := by decide +kernel
theorem d_B_critical_7 : decode prog_11_method_31_code 7 = .ok (.iload_n 2, 1) := by decide +kernel
theorem d_B_critical_8 : decode prog_11_method_31_code 8 = .ok (.bipush 26, 2) := by decide +kernel
theorem d_B_critical_10 : decode prog_11_method_31_code 10 = .ok (.if_icmp .gt 25, 3) := by decide +kernel
theorem d_B_critical_13 : decode prog_11_method_31_code 13 = .ok (.aload_n 0, 1) := by decide +kernel
theorem d_B_critical_14 : decode prog_11_method_31_code 14 = .ok (.getfield 96, 3) := by decide +kernel
theorem d_B_critical_17 : decode prog_11_method_31_code 17 = .ok (.iload_n 2, 1) := by decide +kernel
theorem d_B_critical_18 : decode prog_11_method_31_code 18 = .ok (.ldc2_w 193, 3) := by decide +kernel
theorem d_B_critical_21 : decode prog_11_method_31_code 21 = .ok (.lastore, 1) := by decide +kernel
theorem d_B_critical_22 : decode prog_11_method_31_code 22 = .ok (.aload_n 0, 1) := by decide +kernel
theorem d_B_critical_23 : decode prog_11_method_31_code 23 = .ok (.getfield 99, 3) := by decide +kernel
theorem d_B_critical_26 : decode prog_11_method_31_code 26 = .ok (.iload_n 2, 1) := by decide +kernel
theorem d_B_critical_27 : decode prog_11_method_31_code 27 = .ok (.iconst 0, 1) := by decide +kernel
theorem d_B_critical_28 : decode prog_11_method_31_code 28 = .ok (.iastore, 1) := by decide +kernel
theorem d_B_critical_29 : decode prog_11_method_31_code 29 = .ok (.iinc 2 1, 3) := by decide +kernel
theorem d_B_critical_32 : decode prog_11_method_31_code 32 = .ok (.goto (-25), 3) := by decide +kernel
theorem d_B_critical_35 : decode prog_11_method_31_code 35 = .ok (.iconst 0, 1) := by decide +kernel
theorem d_B_critical_36 : decode prog_11_method_31_code 36 = .ok (.istore_n 2, 1) := by decide +kernel
theorem d_B_critical_37 : decode prog_11_method_31_code 37 = .ok (.iload_n 2, 1) := by decide +kernel
theorem d_B_critical_38 : decode prog_11_method_31_code 38 = .ok (.aload_n 0, 1) := by decide +kernel
theorem d_B_critical_39 : decode prog_11_method_31_code 39 = .ok (.getfield 149, 3) := by decide +kernel
theorem d_B_critical_42 : decode prog_11_method_31_code 42 = .ok (.if_icmp .ge 234, 3) := by decide +kernel
theorem d_B_critical_45 : decode prog_11_method_31_code 45 = .ok (.iconst 1, 1) := by decide +kernel
theorem d_B_critical_46 : decode prog_11_method_31_code 46 = .ok (.istore_n 3, 1) := by decide +kernel
theorem d_B_critical_47 : decode prog_11_method_31_code 47 = .ok (.iload_n 3, 1) := by decide +kernel
theorem d_B_critical_48 : decode prog_11_method_31_code 48 = .ok (.aload_n 0, 1) := by decide +kernel
theorem d_B_critical_49 : decode prog_11_method_31_code 49 = .ok (.getfield 149, 3) := by decide +kernel
theorem d_B_critical_52 : decode prog_11_method_31_code 52 = .ok (.if_icmp .gt 218, 3) := by decide +kernel
theorem d_B_critical_55 : decode prog_11_method_31_code 55 = .ok (.aload_n 0, 1) := by decide +kernel
theorem d_B_critical_56 : decode prog_11_method_31_code 56 = .ok (.getfield 96, 3) := by decide +kernel
theorem d_B_critical_59 : decode prog_11_method_31_code 59 = .ok (.iload_n 3, 1) := by decide +kernel
theorem d_B_critical_60 : decode prog_11_method_31_code 60 = .ok (.laload, 1) := by decide +kernel
theorem d_B_critical_61 : decode prog_11_method_31_code 61 = .ok (.ldc2_w 193, 3) := by decide +kernel
theorem d_B_critical_64 : decode prog_11_method_31_code 64 = .ok (.lcmp, 1) := by decide +kernel
theorem d_B_critical_65 : decode prog_11_method_31_code 65 = .ok (.ifCond .ne 199, 3) := by decide +kernel
theorem d_B_critical_68 : decode prog_11_method_31_code 68 = .ok (.aload_n 0, 1) := by decide +kernel
theorem d_B_critical_69 : decode prog_11_method_31_code 69 = .ok (.getfield 65, 3) := by decide +kernel
theorem d_B_critical_72 : decode prog_11_method_31_code 72 = .ok (.iload_n 3, 1) := by decide +kernel
theorem d_B_critical_73 : decode prog_11_method_31_code 73 = .ok (.iaload, 1) := by decide +kernel
theorem d_B_critical_74 : decode prog_11_method_31_code 74 = .ok (.ifCond .ne 6, 3) := by decide +kernel
theorem d_B_critical_77 : decode prog_11_method_31_code 77 = .ok (.goto 187, 3) := by decide +kernel
theorem d_B_critical_80 : decode prog_11_method_31_code 80 = .ok (.iconst 1, 1) := by decide +kernel
theorem d_B_critical_81 : decode prog_11_method_31_code 81 = .ok (.istore 4, 2) := by decide +kernel
theorem d_B_critical_83 : decode prog_11_method_31_code 83 = .ok (.iconst 0, 1) := by decide +kernel
theorem d_B_critical_84 : decode prog_11_method_31_code 84 = .ok (.istore 5, 2) := by decide +kernel
theorem d_B_critical_86 : decode prog_11_method_31_code 86 = .ok (.iconst 0, 1) := by decide +kernel
theorem d_B_critical_87 : decode prog_11_method_31_code 87 = .ok (.istore 6, 2) := by decide +kernel
theorem d_B_critical_89 : decode prog_11_method_31_code 89 = .ok (.iload 6, 2) := by decide +kernel
theorem d_B_critical_91 : decode prog_11_method_31_code 91 = .ok (.aload_n 0, 1) := by decide +kernel
theorem d_B_critical_92 : decode prog_11_method_31_code 92 = .ok (.getfield 28, 3) := by decide +kernel
theorem d_B_critical_95 : decode prog_11_method_31_code 95 = .ok (.iload_n 3, 1) := by decide +kernel
theorem d_B_critical_96 : decode prog_11_method_31_code 96 = .ok (.iaload, 1) := by decide +kernel
theorem d_B_critical_97 : decode prog_11_method_31_code 97 = .ok (.if_icmp .ge 121, 3) := by decide +kernel
theorem d_B_critical_100 : decode prog_11_method_31_code 100 = .ok (.aload_n 0, 1) := by decide +kernel
theorem d_B_critical_101 : decode prog_11_method_31_code 101 = .ok (.getfield 40, 3) := by decide +kernel
theorem d_B_critical_104 : decode prog_11_method_31_code 104 = .ok (.bipush 20, 2) := by decide +kernel
theorem d_B_critical_106 : decode prog_11_method_31_code 106 = .ok (.iload_n 3, 1) := by decide +kernel
theorem d_B_critical_107 : decode prog_11_method_31_code 107 = .ok (.iconst 1, 1) := by decide +kernel
theorem d_B_critical_108 : decode prog_11_method_31_code 108 = .ok (.isub, 1) := by decide +kernel
theorem d_B_critical_109 : decode prog_11_method_31_code 109 = .ok (.imul, 1) := by decide +kernel
theorem d_B_critical_110 : decode prog_11_method_31_code 110 = .ok (.iload 6, 2) := by decide +kernel
theorem d_B_critical_112 : decode prog_11_method_31_code 112 = .ok (.iadd, 1) := by decide +kernel
theorem d_B_critical_113 : decode prog_11_method_31_code 113 = .ok (.iaload, 1) := by decide +kernel
theorem d_B_critical_114 : decode prog_11_method_31_code 114 = .ok (.istore 7, 2) := by decide +kernel
theorem d_B_critical_116 : decode prog_11_method_31_code 116 = .ok (.aload_n 0, 1) := by decide +kernel
theorem d_B_critical_117 : decode prog_11_method_31_code 117 = .ok (.getfield 65, 3) := by decide +kernel
theorem d_B_critical_120 : decode prog_11_method_31_code 120 = .ok (.iload 7, 2) := by decide +kernel
theorem d_B_critical_122 : decode prog_11_method_31_code 122 = .ok (.iaload, 1) := by decide +kernel
theorem d_B_critical_123 : decode prog_11_method_31_code 123 = .ok (.ifCond .ne 6, 3) := by decide +kernel
theorem d_B_critical_126 : decode prog_11_method_31_code 126 = .ok (.goto 86, 3) := by decide +kernel
theorem d_B_critical_129 : decode prog_11_method_31_code 129 = .ok (.iload 4, 2) := by decide +kernel
theorem d_B_critical_131 : decode prog_11_method_31_code 131 = .ok (.ifCond .eq 21, 3) := by decide +kernel
theorem d_B_critical_134 : decode prog_11_method_31_code 134 = .ok (.aload_n 0, 1) := by decide +kernel
theorem d_B_critical_135 : decode prog_11_method_31_code 135 = .ok (.getfield 96, 3) := by decide +kernel
theorem d_B_critical_138 : decode prog_11_method_31_code 138 = .ok (.iload 7, 2) := by decide +kernel
theorem d_B_critical_140 : decode prog_11_method_31_code 140 = .ok (.laload, 1) := by decide +kernel
theorem d_B_critical_141 : decode prog_11_method_31_code 141 = .ok (.ldc2_w 193, 3) := by decide +kernel
theorem d_B_critical_144 : decode prog_11_method_31_code 144 = .ok (.lcmp, 1) := by decide +kernel
theorem d_B_critical_145 : decode prog_11_method_31_code 145 = .ok (.ifCond .eq 7, 3) := by decide +kernel
theorem d_B_critical_148 : decode prog_11_method_31_code 148 = .ok (.iconst 1, 1) := by decide +kernel
theorem d_B_critical_149 : decode prog_11_method_31_code 149 = .ok (.goto 4, 3) := by decide +kernel
theorem d_B_critical_152 : decode prog_11_method_31_code 152 = .ok (.iconst 0, 1) := by decide +kernel
theorem d_B_critical_153 : decode prog_11_method_31_code 153 = .ok (.istore 4, 2) := by decide +kernel
theorem d_B_critical_155 : decode prog_11_method_31_code 155 = .ok (.iload 5, 2) := by decide +kernel
theorem d_B_critical_157 : decode prog_11_method_31_code 157 = .ok (.ifCond .eq 46, 3) := by decide +kernel
theorem d_B_critical_160 : decode prog_11_method_31_code 160 = .ok (.aload_n 0, 1) := by decide +kernel
theorem d_B_critical_161 : decode prog_11_method_31_code 161 = .ok (.getfield 96, 3) := by decide +kernel
theorem d_B_critical_164 : decode prog_11_method_31_code 164 = .ok (.iload 7, 2) := by decide +kernel
theorem d_B_critical_166 : decode prog_11_method_31_code 166 = .ok (.laload, 1) := by decide +kernel
theorem d_B_critical_167 : decode prog_11_method_31_code 167 = .ok (.aload_n 0, 1) := by decide +kernel
theorem d_B_critical_168 : decode prog_11_method_31_code 168 = .ok (.getfield 96, 3) := by decide +kernel
theorem d_B_critical_171 : decode prog_11_method_31_code 171 = .ok (.iload 5, 2) := by decide +kernel
theorem d_B_critical_173 : decode prog_11_method_31_code 173 = .ok (.laload, 1) := by decide +kernel
theorem d_B_critical_174 : decode prog_11_method_31_code 174 = .ok (.lcmp, 1) := by decide +kernel
theorem d_B_critical_175 : decode prog_11_method_31_code 175 = .ok (.ifCond .gt 28, 3) := by decide +kernel
theorem d_B_critical_178 : decode prog_11_method_31_code 178 = .ok (.aload_n 0, 1) := by decide +kernel
theorem d_B_critical_179 : decode prog_11_method_31_code 179 = .ok (.getfield 96, 3) := by decide +kernel
theorem d_B_critical_182 : decode prog_11_method_31_code 182 = .ok (.iload 7, 2) := by decide +kernel
theorem d_B_critical_184 : decode prog_11_method_31_code 184 = .ok (.laload, 1) := by decide +kernel
theorem d_B_critical_185 : decode prog_11_method_31_code 185 = .ok (.aload_n 0, 1) := by decide +kernel
theorem d_B_critical_186 : decode prog_11_method_31_code 186 = .ok (.getfield 96, 3) := by decide +kernel
theorem d_B_critical_189 : decode prog_11_method_31_code 189 = .ok (.iload 5, 2) := by decide +kernel
theorem d_B_critical_191 : decode prog_11_method_31_code 191 = .ok (.laload, 1) := by decide +kernel
theorem d_B_critical_192 : decode prog_11_method_31_code 192 = .ok (.lcmp, 1) := by decide +kernel
theorem d_B_critical_193 : decode prog_11_method_31_code 193 = .ok (.ifCond .ne 15, 3) := by decide +kernel
theorem d_B_critical_196 : decode prog_11_method_31_code 196 = .ok (.iload 7, 2) := by decide +kernel
theorem d_B_critical_198 : decode prog_11_method_31_code 198 = .ok (.iload 5, 2) := by decide +kernel
theorem d_B_critical_200 : decode prog_11_method_31_code 200 = .ok (.if_icmp .ge 8, 3) := by decide +kernel
theorem d_B_critical_203 : decode prog_11_method_31_code 203 = .ok (.iload 7, 2) := by decide +kernel
theorem d_B_critical_205 : decode prog_11_method_31_code 205 = .ok (.goto 5, 3) := by decide +kernel
theorem d_B_critical_208 : decode prog_11_method_31_code 208 = .ok (.iload 5, 2) := by decide +kernel
theorem d_B_critical_210 : decode prog_11_method_31_code 210 = .ok (.istore 5, 2) := by decide +kernel
theorem d_B_critical_212 : decode prog_11_method_31_code 212 = .ok (.iinc 6 1, 3) := by decide +kernel
theorem d_B_critical_215 : decode prog_11_method_31_code 215 = .ok (.goto (-126), 3) := by decide +kernel
theorem d_B_critical_218 : decode prog_11_method_31_code 218 = .ok (.iload 4, 2) := by decide +kernel
theorem d_B_critical_220 : decode prog_11_method_31_code 220 = .ok (.ifCond .ne 6, 3) := by decide +kernel
theorem d_B_critical_223 : decode prog_11_method_31_code 223 = .ok (.goto 41, 3) := by decide +kernel
theorem d_B_critical_226 : decode prog_11_method_31_code 226 = .ok (.aload_n 0, 1) := by decide +kernel
theorem d_B_critical_227 : decode prog_11_method_31_code 227 = .ok (.getfield 99, 3) := by decide +kernel
theorem d_B_critical_230 : decode prog_11_method_31_code 230 = .ok (.iload_n 3, 1) := by decide +kernel
theorem d_B_critical_231 : decode prog_11_method_31_code 231 = .ok (.iload 5, 2) := by decide +kernel
theorem d_B_critical_233 : decode prog_11_method_31_code 233 = .ok (.iastore, 1) := by decide +kernel
theorem d_B_critical_234 : decode prog_11_method_31_code 234 = .ok (.aload_n 0, 1) := by decide +kernel
theorem d_B_critical_235 : decode prog_11_method_31_code 235 = .ok (.getfield 96, 3) := by decide +kernel
theorem d_B_critical_238 : decode prog_11_method_31_code 238 = .ok (.iload_n 3, 1) := by decide +kernel
theorem d_B_critical_239 : decode prog_11_method_31_code 239 = .ok (.aload_n 0, 1) := by decide +kernel
theorem d_B_critical_240 : decode prog_11_method_31_code 240 = .ok (.getfield 25, 3) := by decide +kernel
theorem d_B_critical_243 : decode prog_11_method_31_code 243 = .ok (.iload_n 3, 1) := by decide +kernel
theorem d_B_critical_244 : decode prog_11_method_31_code 244 = .ok (.iaload, 1) := by decide +kernel
theorem d_B_critical_245 : decode prog_11_method_31_code 245 = .ok (.i2l, 1) := by decide +kernel
theorem d_B_critical_246 : decode prog_11_method_31_code 246 = .ok (.iload 5, 2) := by decide +kernel
theorem d_B_critical_248 : decode prog_11_method_31_code 248 = .ok (.ifCond .ne 7, 3) := by decide +kernel
theorem d_B_critical_251 : decode prog_11_method_31_code 251 = .ok (.lconst 0, 1) := by decide +kernel
theorem d_B_critical_252 : decode prog_11_method_31_code 252 = .ok (.goto 10, 3) := by decide +kernel
theorem d_B_critical_255 : decode prog_11_method_31_code 255 = .ok (.aload_n 0, 1) := by decide +kernel
theorem d_B_critical_256 : decode prog_11_method_31_code 256 = .ok (.getfield 96, 3) := by decide +kernel
theorem d_B_critical_259 : decode prog_11_method_31_code 259 = .ok (.iload 5, 2) := by decide +kernel
theorem d_B_critical_261 : decode prog_11_method_31_code 261 = .ok (.laload, 1) := by decide +kernel
theorem d_B_critical_262 : decode prog_11_method_31_code 262 = .ok (.ladd, 1) := by decide +kernel
theorem d_B_critical_263 : decode prog_11_method_31_code 263 = .ok (.lastore, 1) := by decide +kernel
theorem d_B_critical_264 : decode prog_11_method_31_code 264 = .ok (.iinc 3 1, 3) := by decide +kernel
theorem d_B_critical_267 : decode prog_11_method_31_code 267 = .ok (.goto (-220), 3) := by decide +kernel
theorem d_B_critical_270 : decode prog_11_method_31_code 270 = .ok (.iinc 2 1, 3) := by decide +kernel
theorem d_B_critical_273 : decode prog_11_method_31_code 273 = .ok (.goto (-236), 3) := by decide +kernel
theorem d_B_critical_276 : decode prog_11_method_31_code 276 = .ok (.iconst 0, 1) := by decide +kernel
theorem d_B_critical_277 : decode prog_11_method_31_code 277 = .ok (.istore_n 2, 1) := by decide +kernel
theorem d_B_critical_278 : decode prog_11_method_31_code 278 = .ok (.iconst 1, 1) := by decide +kernel
theorem d_B_critical_279 : decode prog_11_method_31_code 279 = .ok (.istore_n 3, 1) := by decide +kernel
theorem d_B_critical_280 : decode prog_11_method_31_code 280 = .ok (.iload_n 3, 1) := by decide +kernel
theorem d_B_critical_281 : decode prog_11_method_31_code 281 = .ok (.aload_n 0, 1) := by decide +kernel
theorem d_B_critical_282 : decode prog_11_method_31_code 282 = .ok (.getfield 149, 3) := by decide +kernel
theorem d_B_critical_285 : decode prog_11_method_31_code 285 = .ok (.if_icmp .gt 44, 3) := by decide +kernel
theorem d_B_critical_288 : decode prog_11_method_31_code 288 = .ok (.aload_n 0, 1) := by decide +kernel
theorem d_B_critical_289 : decode prog_11_method_31_code 289 = .ok (.getfield 65, 3) := by decide +kernel
theorem d_B_critical_292 : decode prog_11_method_31_code 292 = .ok (.iload_n 3, 1) := by decide +kernel
theorem d_B_critical_293 : decode prog_11_method_31_code 293 = .ok (.iaload, 1) := by decide +kernel
theorem d_B_critical_294 : decode prog_11_method_31_code 294 = .ok (.ifCond .eq 27, 3) := by decide +kernel
theorem d_B_critical_297 : decode prog_11_method_31_code 297 = .ok (.iload_n 2, 1) := by decide +kernel
theorem d_B_critical_298 : decode prog_11_method_31_code 298 = .ok (.ifCond .eq 19, 3) := by decide +kernel
theorem d_B_critical_301 : decode prog_11_method_31_code 301 = .ok (.aload_n 0, 1) := by decide +kernel
theorem d_B_critical_302 : decode prog_11_method_31_code 302 = .ok (.getfield 96, 3) := by decide +kernel
theorem d_B_critical_305 : decode prog_11_method_31_code 305 = .ok (.iload_n 3, 1) := by decide +kernel
theorem d_B_critical_306 : decode prog_11_method_31_code 306 = .ok (.laload, 1) := by decide +kernel
theorem d_B_critical_307 : decode prog_11_method_31_code 307 = .ok (.aload_n 0, 1) := by decide +kernel
theorem d_B_critical_308 : decode prog_11_method_31_code 308 = .ok (.getfield 96, 3) := by decide +kernel
theorem d_B_critical_311 : decode prog_11_method_31_code 311 = .ok (.iload_n 2, 1) := by decide +kernel
theorem d_B_critical_312 : decode prog_11_method_31_code 312 = .ok (.laload, 1) := by decide +kernel
theorem d_B_critical_313 : decode prog_11_method_31_code 313 = .ok (.lcmp, 1) := by decide +kernel
theorem d_B_critical_314 : decode prog_11_method_31_code 314 = .ok (.ifCond .le 7, 3) := by decide +kernel
theorem d_B_critical_317 : decode prog_11_method_31_code 317 = .ok (.iload_n 3, 1) := by decide +kernel
theorem d_B_critical_318 : decode prog_11_method_31_code 318 = .ok (.goto 4, 3) := by decide +kernel
theorem d_B_critical_321 : decode prog_11_method_31_code 321 = .ok (.iload_n 2, 1) := by decide +kernel
theorem d_B_critical_322 : decode prog_11_method_31_code 322 = .ok (.istore_n 2, 1) := by decide +kernel
theorem d_B_critical_323 : decode prog_11_method_31_code 323 = .ok (.iinc 3 1, 3) := by decide +kernel
theorem d_B_critical_326 : decode prog_11_method_31_code 326 = .ok (.goto (-46), 3) := by decide +kernel
theorem d_B_critical_329 : decode prog_11_method_31_code 329 = .ok (.iconst 0, 1) := by decide +kernel
theorem d_B_critical_330 : decode prog_11_method_31_code 330 = .ok (.istore_n 3, 1) := by decide +kernel
theorem d_B_critical_331 : decode prog_11_method_31_code 331 = .ok (.iload_n 2, 1) := by decide +kernel
theorem d_B_critical_332 : decode prog_11_method_31_code 332 = .ok (.istore 4, 2) := by decide +kernel
theorem d_B_critical_334 : decode prog_11_method_31_code 334 = .ok (.iload 4, 2) := by decide +kernel
theorem d_B_critical_336 : decode prog_11_method_31_code 336 = .ok (.ifCond .eq 26, 3) := by decide +kernel
theorem d_B_critical_339 : decode prog_11_method_31_code 339 = .ok (.aload_n 0, 1) := by decide +kernel
theorem d_B_critical_340 : decode prog_11_method_31_code 340 = .ok (.getfield 102, 3) := by decide +kernel
theorem d_B_critical_343 : decode prog_11_method_31_code 343 = .ok (.iload_n 3, 1) := by decide +kernel
theorem d_B_critical_344 : decode prog_11_method_31_code 344 = .ok (.iload 4, 2) := by decide +kernel
theorem d_B_critical_346 : decode prog_11_method_31_code 346 = .ok (.iastore, 1) := by decide +kernel
theorem d_B_critical_347 : decode prog_11_method_31_code 347 = .ok (.iinc 3 1, 3) := by decide +kernel
theorem d_B_critical_350 : decode prog_11_method_31_code 350 = .ok (.aload_n 0, 1) := by decide +kernel
theorem d_B_critical_351 : decode prog_11_method_31_code 351 = .ok (.getfield 99, 3) := by decide +kernel
theorem d_B_critical_354 : decode prog_11_method_31_code 354 = .ok (.iload 4, 2) := by decide +kernel
theorem d_B_critical_356 : decode prog_11_method_31_code 356 = .ok (.iaload, 1) := by decide +kernel
theorem d_B_critical_357 : decode prog_11_method_31_code 357 = .ok (.istore 4, 2) := by decide +kernel
theorem d_B_critical_359 : decode prog_11_method_31_code 359 = .ok (.goto (-25), 3) := by decide +kernel
theorem d_B_critical_362 : decode prog_11_method_31_code 362 = .ok (.iload_n 1, 1) := by decide +kernel
theorem d_B_critical_363 : decode prog_11_method_31_code 363 = .ok (.ifCond .lt 21, 3) := by decide +kernel
theorem d_B_critical_366 : decode prog_11_method_31_code 366 = .ok (.iload_n 1, 1) := by decide +kernel
theorem d_B_critical_367 : decode prog_11_method_31_code 367 = .ok (.iload_n 3, 1) := by decide +kernel
theorem d_B_critical_368 : decode prog_11_method_31_code 368 = .ok (.if_icmp .ge 16, 3) := by decide +kernel
theorem d_B_critical_371 : decode prog_11_method_31_code 371 = .ok (.aload_n 0, 1) := by decide +kernel
theorem d_B_critical_372 : decode prog_11_method_31_code 372 = .ok (.getfield 102, 3) := by decide +kernel
theorem d_B_critical_375 : decode prog_11_method_31_code 375 = .ok (.iload_n 3, 1) := by decide +kernel
theorem d_B_critical_376 : decode prog_11_method_31_code 376 = .ok (.iconst 1, 1) := by decide +kernel
theorem d_B_critical_377 : decode prog_11_method_31_code 377 = .ok (.isub, 1) := by decide +kernel
theorem d_B_critical_378 : decode prog_11_method_31_code 378 = .ok (.iload_n 1, 1) := by decide +kernel
theorem d_B_critical_379 : decode prog_11_method_31_code 379 = .ok (.isub, 1) := by decide +kernel
theorem d_B_critical_380 : decode prog_11_method_31_code 380 = .ok (.iaload, 1) := by decide +kernel
theorem d_B_critical_381 : decode prog_11_method_31_code 381 = .ok (.goto 4, 3) := by decide +kernel
theorem d_B_critical_384 : decode prog_11_method_31_code 384 = .ok (.iconst 0, 1) := by decide +kernel
theorem d_B_critical_385 : decode prog_11_method_31_code 385 = .ok (.ireturn, 1) := by decide +kernel
def md_B_critical_F334 (a1_x : Int32) (f5 : Nat → Int64) (f6 : Nat → Int32) (rec334 : Int32 → Int32 → (Nat → Int32) → Option (Int32 × Int32 × (Nat → Int64) × (Nat → Int32) × (Nat → Int32))) (x9 : Int32) (x10 : Int32) (f11 : Nat → Int32) : Option (Int32 × Int32 × (Nat → Int64) × (Nat → Int32) × (Nat → Int32)) :=
  (if x9 = 0 then (if a1_x < 0 then (some ((0 : Int32), (0 : Int32), f5, f6, f11)) else (if x10 ≤ a1_x then (some ((0 : Int32), (0 : Int32), f5, f6, f11)) else (if sg_in ((x10 - (1 : Int32)) - a1_x) 27 = true then (some (f11 ((x10 - (1 : Int32)) - a1_x).toNatClampNeg, (0 : Int32), f5, f6, f11)) else none))) else (if sg_in x10 27 = true then zl (upd f11 x10.toNatClampNeg x9) (fun f12 => (if sg_in x9 27 = true then (rec334 (f6 x9.toNatClampNeg) (x10 + 1) f12) else none)) else none))
def md_B_critical_F280 (v_p0_jobs : Int32) (f_p0_states : Nat → Int32) (f_p0_path : Nat → Int32) (a1_x : Int32) (N : Nat) (f5 : Nat → Int64) (f6 : Nat → Int32) (rec280 : Int32 → Int32 → Option (Int32 × Int32 × (Nat → Int64) × (Nat → Int32) × (Nat → Int32))) (x7 : Int32) (x8 : Int32) : Option (Int32 × Int32 × (Nat → Int64) × (Nat → Int32) × (Nat → Int32)) :=
  (if v_p0_jobs < x7 then (fx3 (md_B_critical_F334 a1_x f5 f6) N x8 (0 : Int32) f_p0_path) else (if sg_in x7 27 = true then (if (f_p0_states x7.toNatClampNeg) = 0 then (rec280 (x7 + 1) x8) else (if x8 = 0 then (rec280 (x7 + 1) x7) else (if sg_in x7 27 = true then (if sg_in x8 27 = true then (if (lg_cmp (f5 x7.toNatClampNeg) (f5 x8.toNatClampNeg)) ≤ 0 then (rec280 (x7 + 1) x8) else (rec280 (x7 + 1) x7)) else none) else none))) else none))
def md_B_critical_F89 (f_p0_estimates : Nat → Int32) (f_p0_many : Nat → Int32) (f_p0_needs : Nat → Int32) (f_p0_states : Nat → Int32) (x13 : Int32) (f14 : Nat → Int64) (f15 : Nat → Int32) (rec47 : Int32 → (Nat → Int64) → (Nat → Int32) → Option (Int32 × Int32 × (Nat → Int64) × (Nat → Int32) × (Nat → Int32))) (rec89 : Int32 → Int32 → Int32 → Option (Int32 × Int32 × (Nat → Int64) × (Nat → Int32) × (Nat → Int32))) (x16 : Int32) (x17 : Int32) (x18 : Int32) : Option (Int32 × Int32 × (Nat → Int64) × (Nat → Int32) × (Nat → Int32)) :=
  (if sg_in x13 27 = true then (if (f_p0_many x13.toNatClampNeg) ≤ x16 then (if x18 = 0 then (rec47 (x13 + 1) f14 f15) else (if sg_in x13 27 = true then zl (upd f15 x13.toNatClampNeg x17) (fun f19 => (if sg_in x13 27 = true then (if x17 = 0 then (if sg_in x13 27 = true then zl (vp_updL f14 x13.toNatClampNeg (((f_p0_estimates x13.toNatClampNeg).toInt64) + (0 : Int64))) (fun f21 => (rec47 (x13 + 1) f21 f19)) else none) else (if sg_in x17 27 = true then (if sg_in x13 27 = true then zl (vp_updL f14 x13.toNatClampNeg (((f_p0_estimates x13.toNatClampNeg).toInt64) + (f14 x17.toNatClampNeg))) (fun f20 => (rec47 (x13 + 1) f20 f19)) else none) else none)) else none)) else none)) else (if sg_in (((20 : Int32) * (x13 - (1 : Int32))) + x16) 540 = true then (zl (f_p0_needs (((20 : Int32) * (x13 - (1 : Int32))) + x16).toNatClampNeg) (fun x22 => (if sg_in x22 27 = true then (if (f_p0_states x22.toNatClampNeg) = 0 then (rec89 (x16 + 1) x17 x18) else (zl (fun (x23 : Int32) => (if x17 = 0 then (rec89 (x16 + 1) x22 x23) else (if sg_in x22 27 = true then (if sg_in x17 27 = true then (if 0 < (lg_cmp (f14 x22.toNatClampNeg) (f14 x17.toNatClampNeg)) then (rec89 (x16 + 1) x22 x23) else (if sg_in x22 27 = true then (if sg_in x17 27 = true then (if (lg_cmp (f14 x22.toNatClampNeg) (f14 x17.toNatClampNeg)) = 0 then (if x17 ≤ x22 then (rec89 (x16 + 1) x17 x23) else (rec89 (x16 + 1) x22 x23)) else (rec89 (x16 + 1) x17 x23)) else none) else none)) else none) else none))) (fun k153 => (zl (k153 (0 : Int32)) (fun k152 => (if x18 = 0 then (k152) else (if sg_in x22 27 = true then (if (lg_cmp (f14 x22.toNatClampNeg) (-1 : Int64)) = 0 then (k152) else (k153 (1 : Int32))) else none))))))) else none))) else none)) else none)
def md_B_critical_F47 (v_p0_jobs : Int32) (f_p0_estimates : Nat → Int32) (f_p0_many : Nat → Int32) (f_p0_needs : Nat → Int32) (f_p0_states : Nat → Int32) (N : Nat) (x4 : Int32) (rec37 : Int32 → (Nat → Int64) → (Nat → Int32) → Option (Int32 × Int32 × (Nat → Int64) × (Nat → Int32) × (Nat → Int32))) (rec47 : Int32 → (Nat → Int64) → (Nat → Int32) → Option (Int32 × Int32 × (Nat → Int64) × (Nat → Int32) × (Nat → Int32))) (x13 : Int32) (f14 : Nat → Int64) (f15 : Nat → Int32) : Option (Int32 × Int32 × (Nat → Int64) × (Nat → Int32) × (Nat → Int32)) :=
  (if v_p0_jobs < x13 then (rec37 (x4 + 1) f14 f15) else (if sg_in x13 27 = true then (if (lg_cmp (f14 x13.toNatClampNeg) (-1 : Int64)) = 0 then (if sg_in x13 27 = true then (if (f_p0_states x13.toNatClampNeg) = 0 then (rec47 (x13 + 1) f14 f15) else (fx3 (md_B_critical_F89 f_p0_estimates f_p0_many f_p0_needs f_p0_states x13 f14 f15 rec47) N (0 : Int32) (0 : Int32) (1 : Int32))) else none) else (rec47 (x13 + 1) f14 f15)) else none))
def md_B_critical_F37 (v_p0_jobs : Int32) (f_p0_estimates : Nat → Int32) (f_p0_many : Nat → Int32) (f_p0_needs : Nat → Int32) (f_p0_states : Nat → Int32) (f_p0_path : Nat → Int32) (a1_x : Int32) (N : Nat) (rec37 : Int32 → (Nat → Int64) → (Nat → Int32) → Option (Int32 × Int32 × (Nat → Int64) × (Nat → Int32) × (Nat → Int32))) (x4 : Int32) (f5 : Nat → Int64) (f6 : Nat → Int32) : Option (Int32 × Int32 × (Nat → Int64) × (Nat → Int32) × (Nat → Int32)) :=
  (if v_p0_jobs ≤ x4 then (fx2 (md_B_critical_F280 v_p0_jobs f_p0_states f_p0_path a1_x N f5 f6) N (1 : Int32) (0 : Int32)) else (fx3 (md_B_critical_F47 v_p0_jobs f_p0_estimates f_p0_many f_p0_needs f_p0_states N x4 rec37) N (1 : Int32) f5 f6))
def md_B_critical_F7 (v_p0_jobs : Int32) (f_p0_estimates : Nat → Int32) (f_p0_many : Nat → Int32) (f_p0_needs : Nat → Int32) (f_p0_states : Nat → Int32) (f_p0_path : Nat → Int32) (a1_x : Int32) (N : Nat) (rec7 : Int32 → (Nat → Int64) → (Nat → Int32) → Option (Int32 × Int32 × (Nat → Int64) × (Nat → Int32) × (Nat → Int32))) (x1 : Int32) (f2 : Nat → Int64) (f3 : Nat → Int32) : Option (Int32 × Int32 × (Nat → Int64) × (Nat → Int32) × (Nat → Int32)) :=
  (if (26 : Int32) < x1 then (fx3 (md_B_critical_F37 v_p0_jobs f_p0_estimates f_p0_many f_p0_needs f_p0_states f_p0_path a1_x N) N (0 : Int32) f2 f3) else (if sg_in x1 27 = true then zl (vp_updL f2 x1.toNatClampNeg (-1 : Int64)) (fun f24 => (if sg_in x1 27 = true then zl (upd f3 x1.toNatClampNeg (0 : Int32)) (fun f25 => (rec7 (x1 + 1) f24 f25)) else none)) else none))
def md_B_critical (N : Nat) (v_p0_code : Int32) (v_p0_jobs : Int32) (f_p0_estimates : Nat → Int32) (f_p0_many : Nat → Int32) (f_p0_needs : Nat → Int32) (f_p0_states : Nat → Int32) (f_p0_way : Nat → Int64) (f_p0_before : Nat → Int32) (f_p0_path : Nat → Int32) (a1_x : Int32) : Option (Int32 × Int32 × (Nat → Int64) × (Nat → Int32) × (Nat → Int32)) :=
  (fx3 (md_B_critical_F7 v_p0_jobs f_p0_estimates f_p0_many f_p0_needs f_p0_states f_p0_path a1_x N) N (0 : Int32) f_p0_way f_p0_before)
abbrev sc_B_critical (cI cL cM cZ : ClassId) (q_p0 q_p0_text q_p0_names q_p0_calendars q_p0_priorities q_p0_starts q_p0_estimates q_p0_many q_p0_newNames q_p0_numbers q_p0_newMany q_p0_needs q_p0_conditions q_p0_newNeeds q_p0_newConditions q_p0_needPlaces q_p0_rules q_p0_of q_p0_holidays q_p0_states q_p0_ran q_p0_sums q_p0_kept q_p0_startedJob q_p0_startedAt q_p0_ring q_p0_came q_p0_level q_p0_again q_p0_way q_p0_before q_p0_path : Nat) (v_p0_code : Int32) (v_p0_length : Int32) (v_p0_jobs : Int32) (v_p0_newJobs : Int32) (v_p0_made : Int32) (v_p0_days : Int32) (v_p0_now : Int64) (v_p0_started : Int32) (v_p0_ringSize : Int32) (v_p0_place : Int32) (f_p0_estimates : Nat → Int32) (f_p0_many : Nat → Int32) (f_p0_needs : Nat → Int32) (f_p0_states : Nat → Int32) (f_p0_way : Nat → Int64) (f_p0_before : Nat → Int32) (f_p0_path : Nat → Int32) : List va_W := [[(q_p0, .inr (9, [.int v_p0_code, .ref q_p0_text, .int v_p0_length, .int v_p0_jobs, .int v_p0_newJobs, .ref q_p0_names, .ref q_p0_calendars, .ref q_p0_priorities, .ref q_p0_starts, .ref q_p0_estimates, .ref q_p0_many, .ref q_p0_newNames, .ref q_p0_numbers, .ref q_p0_newMany, .ref q_p0_needs, .ref q_p0_conditions, .ref q_p0_newNeeds, .ref q_p0_newConditions, .ref q_p0_needPlaces, .ref q_p0_rules, .ref q_p0_of, .int v_p0_made, .ref q_p0_holidays, .int v_p0_days, .ref q_p0_states, .ref q_p0_ran, .ref q_p0_sums, .ref q_p0_kept, .long v_p0_now, .ref q_p0_startedJob, .ref q_p0_startedAt, .int v_p0_started, .ref q_p0_ring, .ref q_p0_came, .ref q_p0_level, .int v_p0_ringSize, .ref q_p0_again, .ref q_p0_way, .ref q_p0_before, .ref q_p0_path, .int v_p0_place]))], [(q_p0_estimates, .inl (cI, 27, .inl f_p0_estimates))], [(q_p0_many, .inl (cI, 27, .inl f_p0_many))], [(q_p0_needs, .inl (cI, 540, .inl f_p0_needs))], [(q_p0_states, .inl (cI, 27, .inl f_p0_states))], [(q_p0_way, .inl (cL, 27, .inr (.inl f_p0_way)))], [(q_p0_before, .inl (cI, 27, .inl f_p0_before))], [(q_p0_path, .inl (cI, 27, .inl f_p0_path))]]
abbrev rm_B_critical : Room := { frames := 0, cells := 0, slots := 0, locals := 0 }
set_option maxHeartbeats 4000000 in
set_option maxRecDepth 100000 in
theorem ct_B_critical (l : Launch) (dC : Nat → ClassId) (dI : Nat → Nat → Nat) (cI cL cM cZ : ClassId) (q_p0 q_p0_text q_p0_names q_p0_calendars q_p0_priorities q_p0_starts q_p0_estimates q_p0_many q_p0_newNames q_p0_numbers q_p0_newMany q_p0_needs q_p0_conditions q_p0_newNeeds q_p0_newConditions q_p0_needPlaces q_p0_rules q_p0_of q_p0_holidays q_p0_states q_p0_ran q_p0_sums q_p0_kept q_p0_startedJob q_p0_startedAt q_p0_ring q_p0_came q_p0_level q_p0_again q_p0_way q_p0_before q_p0_path : Nat) (v_p0_code : Int32) (v_p0_length : Int32) (v_p0_jobs : Int32) (v_p0_newJobs : Int32) (v_p0_made : Int32) (v_p0_days : Int32) (v_p0_now : Int64) (v_p0_started : Int32) (v_p0_ringSize : Int32) (v_p0_place : Int32) (f_p0_estimates : Nat → Int32) (f_p0_many : Nat → Int32) (f_p0_needs : Nat → Int32) (f_p0_states : Nat → Int32) (f_p0_way : Nat → Int64) (f_p0_before : Nat → Int32) (f_p0_path : Nat → Int32) (a1_x : Int32) (N : Nat) (o : Int32 × Int32 × (Nat → Int64) × (Nat → Int32) × (Nat → Int32)) (hm : md_B_critical N v_p0_code v_p0_jobs f_p0_estimates f_p0_many f_p0_needs f_p0_states f_p0_way f_p0_before f_p0_path a1_x = some o) : ∀ sz : Nat, Met l y_B_critical ws_B_critical rm_B_critical (cP (dC, dI) vwCl [(cI, .int), (cL, .long), (cM, .array .int), (cZ, .boolean)] [.ref q_p0, .int a1_x] sz (sc_B_critical cI cL cM cZ q_p0 q_p0_text q_p0_names q_p0_calendars q_p0_priorities q_p0_starts q_p0_estimates q_p0_many q_p0_newNames q_p0_numbers q_p0_newMany q_p0_needs q_p0_conditions q_p0_newNeeds q_p0_newConditions q_p0_needPlaces q_p0_rules q_p0_of q_p0_holidays q_p0_states q_p0_ran q_p0_sums q_p0_kept q_p0_startedJob q_p0_startedAt q_p0_ring q_p0_came q_p0_level q_p0_again q_p0_way q_p0_before q_p0_path v_p0_code v_p0_length v_p0_jobs v_p0_newJobs v_p0_made v_p0_days v_p0_now v_p0_started v_p0_ringSize v_p0_place f_p0_estimates f_p0_many f_p0_needs f_p0_states f_p0_way f_p0_before f_p0_path)) (cQi (dC, dI) vwCl [(cI, .int), (cL, .long), (cM, .array .int), (cZ, .boolean)] sz (sc_B_critical cI cL cM cZ q_p0 q_p0_text q_p0_names q_p0_calendars q_p0_priorities q_p0_starts q_p0_estimates q_p0_many q_p0_newNames q_p0_numbers q_p0_newMany q_p0_needs q_p0_conditions q_p0_newNeeds q_p0_newConditions q_p0_needPlaces q_p0_rules q_p0_of q_p0_holidays q_p0_states q_p0_ran q_p0_sums q_p0_kept q_p0_startedJob q_p0_startedAt q_p0_ring q_p0_came q_p0_level q_p0_again q_p0_way q_p0_before q_p0_path v_p0_code v_p0_length v_p0_jobs v_p0_newJobs v_p0_made v_p0_days v_p0_now v_p0_started v_p0_ringSize v_p0_place f_p0_estimates f_p0_many f_p0_needs f_p0_states f_p0_way f_p0_before f_p0_path) o.1 (sc_B_critical cI cL cM cZ q_p0 q_p0_text q_p0_names q_p0_calendars q_p0_priorities q_p0_starts q_p0_estimates q_p0_many q_p0_newNames q_p0_numbers q_p0_newMany q_p0_needs q_p0_conditions q_p0_newNeeds q_p0_newConditions q_p0_needPlaces q_p0_rules q_p0_of q_p0_holidays q_p0_states q_p0_ran q_p0_sums q_p0_kept q_p0_startedJob q_p0_startedAt q_p0_ring q_p0_came q_p0_level q_p0_again q_p0_way q_p0_before q_p0_path o.2.1 v_p0_length v_p0_jobs v_p0_newJobs v_p0_made v_p0_days v_p0_now v_p0_started v_p0_ringSize v_p0_place f_p0_estimates f_p0_many f_p0_needs f_p0_states o.2.2.1 o.2.2.2.1 o.2.2.2.2)) 0 0 (va_A ((sc_B_critical cI cL cM cZ q_p0 q_p0_text q_p0_names q_p0_calendars q_p0_priorities q_p0_starts q_p0_estimates q_p0_many q_p0_newNames q_p0_numbers q_p0_newMany q_p0_needs q_p0_conditions q_p0_newNeeds q_p0_newConditions q_p0_needPlaces q_p0_rules q_p0_of q_p0_holidays q_p0_states q_p0_ran q_p0_sums q_p0_kept q_p0_startedJob q_p0_startedAt q_p0_ring q_p0_came q_p0_level q_p0_again q_p0_way q_p0_before q_p0_path v_p0_code v_p0_length v_p0_jobs v_p0_newJobs v_p0_made v_p0_days v_p0_now v_p0_started v_p0_ringSize v_p0_place f_p0_estimates f_p0_many f_p0_needs f_p0_states f_p0_way f_p0_before f_p0_path)).flatten sz) := by
  refine sg_met (fun sz => cQi (dC, dI) vwCl [(cI, .int), (cL, .long), (cM, .array .int), (cZ, .boolean)] sz (sc_B_critical cI cL cM cZ q_p0 q_p0_text q_p0_names q_p0_calendars q_p0_priorities q_p0_starts q_p0_estimates q_p0_many q_p0_newNames q_p0_numbers q_p0_newMany q_p0_needs q_p0_conditions q_p0_newNeeds q_p0_newConditions q_p0_needPlaces q_p0_rules q_p0_of q_p0_holidays q_p0_states q_p0_ran q_p0_sums q_p0_kept q_p0_startedJob q_p0_startedAt q_p0_ring q_p0_came q_p0_level q_p0_again q_p0_way q_p0_before q_p0_path v_p0_code v_p0_length v_p0_jobs v_p0_newJobs v_p0_made v_p0_days v_p0_now v_p0_started v_p0_ringSize v_p0_place f_p0_estimates f_p0_many f_p0_needs f_p0_states f_p0_way f_p0_before f_p0_path) o.1 (sc_B_critical cI cL cM cZ q_p0 q_p0_text q_p0_names q_p0_calendars q_p0_priorities q_p0_starts q_p0_estimates q_p0_many q_p0_newNames q_p0_numbers q_p0_newMany q_p0_needs q_p0_conditions q_p0_newNeeds q_p0_newConditions q_p0_needPlaces q_p0_rules q_p0_of q_p0_holidays q_p0_states q_p0_ran q_p0_sums q_p0_kept q_p0_startedJob q_p0_startedAt q_p0_ring q_p0_came q_p0_level q_p0_again q_p0_way q_p0_before q_p0_path o.2.1 v_p0_length v_p0_jobs v_p0_newJobs v_p0_made v_p0_days v_p0_now v_p0_started v_p0_ringSize v_p0_place f_p0_estimates f_p0_many f_p0_needs f_p0_states o.2.2.1 o.2.2.2.1 o.2.2.2.2)) (by decide) (Nat.le_of_ble_eq_true rfl) ?_
  intro p e s m args below meth c A Q ls hx hb hr hts hown hlocks hml hname hK hNW hA hAe hQ hw hl
  have hl : lv_has ls 8 [(0, .ref q_p0), (1, .int a1_x)] := hl
  have hw : wk (dC, dI) vwCl A s.heap [[(q_p0, .inr (9, [.int v_p0_code, .ref q_p0_text, .int v_p0_length, .int v_p0_jobs, .int v_p0_newJobs, .ref q_p0_names, .ref q_p0_calendars, .ref q_p0_priorities, .ref q_p0_starts, .ref q_p0_estimates, .ref q_p0_many, .ref q_p0_newNames, .ref q_p0_numbers, .ref q_p0_newMany, .ref q_p0_needs, .ref q_p0_conditions, .ref q_p0_newNeeds, .ref q_p0_newConditions, .ref q_p0_needPlaces, .ref q_p0_rules, .ref q_p0_of, .int v_p0_made, .ref q_p0_holidays, .int v_p0_days, .ref q_p0_states, .ref q_p0_ran, .ref q_p0_sums, .ref q_p0_kept, .long v_p0_now, .ref q_p0_startedJob, .ref q_p0_startedAt, .int v_p0_started, .ref q_p0_ring, .ref q_p0_came, .ref q_p0_level, .int v_p0_ringSize, .ref q_p0_again, .ref q_p0_way, .ref q_p0_before, .ref q_p0_path, .int v_p0_place]))], [(q_p0_estimates, .inl (cI, 27, .inl f_p0_estimates))], [(q_p0_many, .inl (cI, 27, .inl f_p0_many))], [(q_p0_needs, .inl (cI, 540, .inl f_p0_needs))], [(q_p0_states, .inl (cI, 27, .inl f_p0_states))], [(q_p0_way, .inl (cL, 27, .inr (.inl f_p0_way)))], [(q_p0_before, .inl (cI, 27, .inl f_p0_before))], [(q_p0_path, .inl (cI, 27, .inl f_p0_path))]] s.heap [] := hw
  unfold md_B_critical at hm
  refine lv_aload_n hx hb d_B_critical_0 rfl (lv_at hl 0 rfl) ?_
  refine lv_iconst (v := 0) hx hb d_B_critical_1 (by decide) ?_
  refine sg_put (D := (dC, dI)) (ci := 9) (v := .int (0 : Int32)) (ty := .int) (C := "JobNetsModel") (T := T_9) (N := 41) (S1 := [[(q_p0, .inr (9, [.int (0 : Int32), .ref q_p0_text, .int v_p0_length, .int v_p0_jobs, .int v_p0_newJobs, .ref q_p0_names, .ref q_p0_calendars, .ref q_p0_priorities, .ref q_p0_starts, .ref q_p0_estimates, .ref q_p0_many, .ref q_p0_newNames, .ref q_p0_numbers, .ref q_p0_newMany, .ref q_p0_needs, .ref q_p0_conditions, .ref q_p0_newNeeds, .ref q_p0_newConditions, .ref q_p0_needPlaces, .ref q_p0_rules, .ref q_p0_of, .int v_p0_made, .ref q_p0_holidays, .int v_p0_days, .ref q_p0_states, .ref q_p0_ran, .ref q_p0_sums, .ref q_p0_kept, .long v_p0_now, .ref q_p0_startedJob, .ref q_p0_startedAt, .int v_p0_started, .ref q_p0_ring, .ref q_p0_came, .ref q_p0_level, .int v_p0_ringSize, .ref q_p0_again, .ref q_p0_way, .ref q_p0_before, .ref q_p0_path, .int v_p0_place]))], [(q_p0_estimates, .inl (cI, 27, .inl f_p0_estimates))], [(q_p0_many, .inl (cI, 27, .inl f_p0_many))], [(q_p0_needs, .inl (cI, 540, .inl f_p0_needs))], [(q_p0_states, .inl (cI, 27, .inl f_p0_states))], [(q_p0_way, .inl (cL, 27, .inr (.inl f_p0_way)))], [(q_p0_before, .inl (cI, 27, .inl f_p0_before))], [(q_p0_path, .inl (cI, 27, .inl f_p0_path))]]) hx hb hts hin_9 ty_9 tok_9 nd_9 hown hK hw 0 rfl rfl 0 (by decide) (hts _ wd_616) rfl rfl (by decide +kernel) rfl rfl (Nat.le_of_ble_eq_true rfl) rfl d_B_critical_2 (fun H locs hw => ?_)
  refine lv_iconst (v := 0) hx hb d_B_critical_5 (by decide) ?_
  refine lv_istore_n (lv' := [(2, .int (0 : Int32)), (0, .ref q_p0), (1, .int a1_x)]) hx hb d_B_critical_6 rfl hl (by decide) rfl (fun ls hl => ?_)
  obtain ⟨Fn7, hFn7, hm⟩ := fx3_x hm
  have L7 : ∀ (n : Nat) (x1 : Int32) (f2 : Nat → Int64) (f3 : Nat → Int32), fx3 Fn7 n x1 f2 f3 = some o → ∀ (H : Heap) (locs : List Loc) (ls : Array Slot), wk (dC, dI) vwCl A s.heap [[(q_p0, .inr (9, [.int (0 : Int32), .ref q_p0_text, .int v_p0_length, .int v_p0_jobs, .int v_p0_newJobs, .ref q_p0_names, .ref q_p0_calendars, .ref q_p0_priorities, .ref q_p0_starts, .ref q_p0_estimates, .ref q_p0_many, .ref q_p0_newNames, .ref q_p0_numbers, .ref q_p0_newMany, .ref q_p0_needs, .ref q_p0_conditions, .ref q_p0_newNeeds, .ref q_p0_newConditions, .ref q_p0_needPlaces, .ref q_p0_rules, .ref q_p0_of, .int v_p0_made, .ref q_p0_holidays, .int v_p0_days, .ref q_p0_states, .ref q_p0_ran, .ref q_p0_sums, .ref q_p0_kept, .long v_p0_now, .ref q_p0_startedJob, .ref q_p0_startedAt, .int v_p0_started, .ref q_p0_ring, .ref q_p0_came, .ref q_p0_level, .int v_p0_ringSize, .ref q_p0_again, .ref q_p0_way, .ref q_p0_before, .ref q_p0_path, .int v_p0_place]))], [(q_p0_estimates, .inl (cI, 27, .inl f_p0_estimates))], [(q_p0_many, .inl (cI, 27, .inl f_p0_many))], [(q_p0_needs, .inl (cI, 540, .inl f_p0_needs))], [(q_p0_states, .inl (cI, 27, .inl f_p0_states))], [(q_p0_way, .inl (cL, 27, .inr (.inl f2)))], [(q_p0_before, .inl (cI, 27, .inl f3))], [(q_p0_path, .inl (cI, 27, .inl f_p0_path))]] H locs → lv_has ls 8 [(2, .int x1), (0, .ref q_p0), (1, .int a1_x)] → W p l e rm_B_critical s m args below meth c H locs 0 0 Q (F0 m 7 ls []) := by
    intro n
    induction n with
    | zero => intro x1 f2 f3 hm; exact (fx3_0 hm).elim
    | succ n ih7 =>
      intro x1 f2 f3 hm H locs ls hw hl
      have hm := fx3_s hFn7 hm
      unfold md_B_critical_F7 at hm
      refine lv_iload_n hx hb d_B_critical_7 rfl (lv_at hl 0 rfl) ?_
      refine lv_bipush (v := 26) hx hb d_B_critical_8 (by decide) ?_
      refine bq_t (lv_icmp_gt (tgt := 35) hx hb d_B_critical_10 (by decide)) hm (fun hm => ?_) (fun hm => ?_)
      · refine lv_iconst (v := 0) hx hb d_B_critical_35 (by decide) ?_
        refine lv_istore_n (lv' := [(2, .int (0 : Int32)), (0, .ref q_p0), (1, .int a1_x)]) hx hb d_B_critical_36 rfl hl (by decide) rfl (fun ls hl => ?_)
        obtain ⟨Fn37, hFn37, hm⟩ := fx3_x hm
        have L37 : ∀ (n : Nat) (x4 : Int32) (f5 : Nat → Int64) (f6 : Nat → Int32), fx3 Fn37 n x4 f5 f6 = some o → ∀ (H : Heap) (locs : List Loc) (ls : Array Slot), wk (dC, dI) vwCl A s.heap [[(q_p0, .inr (9, [.int (0 : Int32), .ref q_p0_text, .int v_p0_length, .int v_p0_jobs, .int v_p0_newJobs, .ref q_p0_names, .ref q_p0_calendars, .ref q_p0_priorities, .ref q_p0_starts, .ref q_p0_estimates, .ref q_p0_many, .ref q_p0_newNames, .ref q_p0_numbers, .ref q_p0_newMany, .ref q_p0_needs, .ref q_p0_conditions, .ref q_p0_newNeeds, .ref q_p0_newConditions, .ref q_p0_needPlaces, .ref q_p0_rules, .ref q_p0_of, .int v_p0_made, .ref q_p0_holidays, .int v_p0_days, .ref q_p0_states, .ref q_p0_ran, .ref q_p0_sums, .ref q_p0_kept, .long v_p0_now, .ref q_p0_startedJob, .ref q_p0_startedAt, .int v_p0_started, .ref q_p0_ring, .ref q_p0_came, .ref q_p0_level, .int v_p0_ringSize, .ref q_p0_again, .ref q_p0_way, .ref q_p0_before, .ref q_p0_path, .int v_p0_place]))], [(q_p0_estimates, .inl (cI, 27, .inl f_p0_estimates))], [(q_p0_many, .inl (cI, 27, .inl f_p0_many))], [(q_p0_needs, .inl (cI, 540, .inl f_p0_needs))], [(q_p0_states, .inl (cI, 27, .inl f_p0_states))], [(q_p0_way, .inl (cL, 27, .inr (.inl f5)))], [(q_p0_before, .inl (cI, 27, .inl f6))], [(q_p0_path, .inl (cI, 27, .inl f_p0_path))]] H locs → lv_has ls 8 [(2, .int x4), (0, .ref q_p0), (1, .int a1_x)] → W p l e rm_B_critical s m args below meth c H locs 0 0 Q (F0 m 37 ls []) := by
          intro n
          induction n with
          | zero => intro x4 f5 f6 hm; exact (fx3_0 hm).elim
          | succ n ih37 =>
            intro x4 f5 f6 hm H locs ls hw hl
            have hm := fx3_s hFn37 hm
            unfold md_B_critical_F37 at hm
            refine lv_iload_n hx hb d_B_critical_37 rfl (lv_at hl 0 rfl) ?_
            refine lv_aload_n hx hb d_B_critical_38 rfl (lv_at hl 1 rfl) ?_
            refine sg_get (D := (dC, dI)) (ci := 9) (v := .int v_p0_jobs) (C := "JobNetsModel") (T := T_9) (N := 41) hx hb hts hin_9 hown hK hw 0 rfl rfl 3 (by decide) (hts _ wd_619) rfl rfl d_B_critical_39 ?_
            refine bq_t (lv_icmp_ge (tgt := 276) hx hb d_B_critical_42 (by decide)) hm (fun hm => ?_) (fun hm => ?_)
            · refine lv_iconst (v := 0) hx hb d_B_critical_276 (by decide) ?_
              refine lv_istore_n (lv' := [(2, .int (0 : Int32)), (0, .ref q_p0), (1, .int a1_x)]) hx hb d_B_critical_277 rfl hl (by decide) rfl (fun ls hl => ?_)
              refine lv_iconst (v := 1) hx hb d_B_critical_278 (by decide) ?_
              refine lv_istore_n (lv' := [(3, .int (1 : Int32)), (2, .int (0 : Int32)), (0, .ref q_p0), (1, .int a1_x)]) hx hb d_B_critical_279 rfl hl (by decide) rfl (fun ls hl => ?_)
              obtain ⟨Fn280, hFn280, hm⟩ := fx2_x hm
              have L280 : ∀ (n : Nat) (x7 : Int32) (x8 : Int32), fx2 Fn280 n x7 x8 = some o → ∀ (H : Heap) (locs : List Loc) (ls : Array Slot), wk (dC, dI) vwCl A s.heap [[(q_p0, .inr (9, [.int (0 : Int32), .ref q_p0_text, .int v_p0_length, .int v_p0_jobs, .int v_p0_newJobs, .ref q_p0_names, .ref q_p0_calendars, .ref q_p0_priorities, .ref q_p0_starts, .ref q_p0_estimates, .ref q_p0_many, .ref q_p0_newNames, .ref q_p0_numbers, .ref q_p0_newMany, .ref q_p0_needs, .ref q_p0_conditions, .ref q_p0_newNeeds, .ref q_p0_newConditions, .ref q_p0_needPlaces, .ref q_p0_rules, .ref q_p0_of, .int v_p0_made, .ref q_p0_holidays, .int v_p0_days, .ref q_p0_states, .ref q_p0_ran, .ref q_p0_sums, .ref q_p0_kept, .long v_p0_now, .ref q_p0_startedJob, .ref q_p0_startedAt, .int v_p0_started, .ref q_p0_ring, .ref q_p0_came, .ref q_p0_level, .int v_p0_ringSize, .ref q_p0_again, .ref q_p0_way, .ref q_p0_before, .ref q_p0_path, .int v_p0_place]))], [(q_p0_estimates, .inl (cI, 27, .inl f_p0_estimates))], [(q_p0_many, .inl (cI, 27, .inl f_p0_many))], [(q_p0_needs, .inl (cI, 540, .inl f_p0_needs))], [(q_p0_states, .inl (cI, 27, .inl f_p0_states))], [(q_p0_way, .inl (cL, 27, .inr (.inl f5)))], [(q_p0_before, .inl (cI, 27, .inl f6))], [(q_p0_path, .inl (cI, 27, .inl f_p0_path))]] H locs → lv_has ls 8 [(3, .int x7), (2, .int x8), (0, .ref q_p0), (1, .int a1_x)] → W p l e rm_B_critical s m args below meth c H locs 0 0 Q (F0 m 280 ls []) := by
                intro n
                induction n with
                | zero => intro x7 x8 hm; exact (fx2_0 hm).elim
                | succ n ih280 =>
                  intro x7 x8 hm H locs ls hw hl
                  have hm := fx2_s hFn280 hm
                  unfold md_B_critical_F280 at hm
                  refine lv_iload_n hx hb d_B_critical_280 rfl (lv_at hl 0 rfl) ?_
                  refine lv_aload_n hx hb d_B_critical_281 rfl (lv_at hl 2 rfl) ?_
                  refine sg_get (D := (dC, dI)) (ci := 9) (v := .int v_p0_jobs) (C := "JobNetsModel") (T := T_9) (N := 41) hx hb hts hin_9 hown hK hw 0 rfl rfl 3 (by decide) (hts _ wd_619) rfl rfl d_B_critical_282 ?_
                  refine bq_t (lv_icmp_gt (tgt := 329) hx hb d_B_critical_285 (by decide)) hm (fun hm => ?_) (fun hm => ?_)
                  · refine lv_iconst (v := 0) hx hb d_B_critical_329 (by decide) ?_
                    refine lv_istore_n (lv' := [(3, .int (0 : Int32)), (2, .int x8), (0, .ref q_p0), (1, .int a1_x)]) hx hb d_B_critical_330 rfl hl (by decide) rfl (fun ls hl => ?_)
                    refine lv_iload_n hx hb d_B_critical_331 rfl (lv_at hl 1 rfl) ?_
                    refine lv_istore (lv' := [(4, .int x8), (3, .int (0 : Int32)), (2, .int x8), (0, .ref q_p0), (1, .int a1_x)]) hx hb d_B_critical_332 hl (by decide) rfl (fun ls hl => ?_)
                    obtain ⟨Fn334, hFn334, hm⟩ := fx3_x hm
                    have L334 : ∀ (n : Nat) (x9 : Int32) (x10 : Int32) (f11 : Nat → Int32), fx3 Fn334 n x9 x10 f11 = some o → ∀ (H : Heap) (locs : List Loc) (ls : Array Slot), wk (dC, dI) vwCl A s.heap [[(q_p0, .inr (9, [.int (0 : Int32), .ref q_p0_text, .int v_p0_length, .int v_p0_jobs, .int v_p0_newJobs, .ref q_p0_names, .ref q_p0_calendars, .ref q_p0_priorities, .ref q_p0_starts, .ref q_p0_estimates, .ref q_p0_many, .ref q_p0_newNames, .ref q_p0_numbers, .ref q_p0_newMany, .ref q_p0_needs, .ref q_p0_conditions, .ref q_p0_newNeeds, .ref q_p0_newConditions, .ref q_p0_needPlaces, .ref q_p0_rules, .ref q_p0_of, .int v_p0_made, .ref q_p0_holidays, .int v_p0_days, .ref q_p0_states, .ref q_p0_ran, .ref q_p0_sums, .ref q_p0_kept, .long v_p0_now, .ref q_p0_startedJob, .ref q_p0_startedAt, .int v_p0_started, .ref q_p0_ring, .ref q_p0_came, .ref q_p0_level, .int v_p0_ringSize, .ref q_p0_again, .ref q_p0_way, .ref q_p0_before, .ref q_p0_path, .int v_p0_place]))], [(q_p0_estimates, .inl (cI, 27, .inl f_p0_estimates))], [(q_p0_many, .inl (cI, 27, .inl f_p0_many))], [(q_p0_needs, .inl (cI, 540, .inl f_p0_needs))], [(q_p0_states, .inl (cI, 27, .inl f_p0_states))], [(q_p0_way, .inl (cL, 27, .inr (.inl f5)))], [(q_p0_before, .inl (cI, 27, .inl f6))], [(q_p0_path, .inl (cI, 27, .inl f11))]] H locs → lv_has ls 8 [(4, .int x9), (3, .int x10), (0, .ref q_p0), (1, .int a1_x)] → W p l e rm_B_critical s m args below meth c H locs 0 0 Q (F0 m 334 ls []) := by
                      intro n
                      induction n with
                      | zero => intro x9 x10 f11 hm; exact (fx3_0 hm).elim
                      | succ n ih334 =>
                        intro x9 x10 f11 hm H locs ls hw hl
                        have hm := fx3_s hFn334 hm
                        unfold md_B_critical_F334 at hm
                        refine lv_iload hx hb d_B_critical_334 (lv_at hl 0 rfl) ?_
                        refine bq_t (lv_if_eq (tgt := 362) hx hb d_B_critical_336 (by decide)) hm (fun hm => ?_) (fun hm => ?_)
                        · refine lv_iload_n hx hb d_B_critical_362 rfl (lv_at hl 3 rfl) ?_
                          refine bq_t (lv_if_lt (tgt := 384) hx hb d_B_critical_363 (by decide)) hm (fun hm => ?_) (fun hm => ?_)
                          · refine lv_iconst (v := 0) hx hb d_B_critical_384 (by decide) ?_
                            exact so_iret (rf := fun z_ => z_.1) (Sf := fun z_ => sc_B_critical cI cL cM cZ q_p0 q_p0_text q_p0_names q_p0_calendars q_p0_priorities q_p0_starts q_p0_estimates q_p0_many q_p0_newNames q_p0_numbers q_p0_newMany q_p0_needs q_p0_conditions q_p0_newNeeds q_p0_newConditions q_p0_needPlaces q_p0_rules q_p0_of q_p0_holidays q_p0_states q_p0_ran q_p0_sums q_p0_kept q_p0_startedJob q_p0_startedAt q_p0_ring q_p0_came q_p0_level q_p0_again q_p0_way q_p0_before q_p0_path z_.2.1 v_p0_length v_p0_jobs v_p0_newJobs v_p0_made v_p0_days v_p0_now v_p0_started v_p0_ringSize v_p0_place f_p0_estimates f_p0_many f_p0_needs f_p0_states z_.2.2.1 z_.2.2.2.1 z_.2.2.2.2) hm hx hb hr hlocks hAe hQ hK hw rfl d_B_critical_385
                          · refine lv_iload_n hx hb d_B_critical_366 rfl (lv_at hl 3 rfl) ?_
                            refine lv_iload_n hx hb d_B_critical_367 rfl (lv_at hl 1 rfl) ?_
                            refine bq_t (lv_icmp_ge (tgt := 384) hx hb d_B_critical_368 (by decide)) hm (fun hm => ?_) (fun hm => ?_)
                            · refine lv_iconst (v := 0) hx hb d_B_critical_384 (by decide) ?_
                              exact so_iret (rf := fun z_ => z_.1) (Sf := fun z_ => sc_B_critical cI cL cM cZ q_p0 q_p0_text q_p0_names q_p0_calendars q_p0_priorities q_p0_starts q_p0_estimates q_p0_many q_p0_newNames q_p0_numbers q_p0_newMany q_p0_needs q_p0_conditions q_p0_newNeeds q_p0_newConditions q_p0_needPlaces q_p0_rules q_p0_of q_p0_holidays q_p0_states q_p0_ran q_p0_sums q_p0_kept q_p0_startedJob q_p0_startedAt q_p0_ring q_p0_came q_p0_level q_p0_again q_p0_way q_p0_before q_p0_path z_.2.1 v_p0_length v_p0_jobs v_p0_newJobs v_p0_made v_p0_days v_p0_now v_p0_started v_p0_ringSize v_p0_place f_p0_estimates f_p0_many f_p0_needs f_p0_states z_.2.2.1 z_.2.2.2.1 z_.2.2.2.2) hm hx hb hr hlocks hAe hQ hK hw rfl d_B_critical_385
                            · refine lv_aload_n hx hb d_B_critical_371 rfl (lv_at hl 2 rfl) ?_
                              refine sg_get (D := (dC, dI)) (ci := 9) (v := .ref q_p0_path) (C := "JobNetsModel") (T := T_9) (N := 41) hx hb hts hin_9 hown hK hw 0 rfl rfl 39 (by decide) (hts _ wd_655) rfl rfl d_B_critical_372 ?_
                              refine lv_iload_n hx hb d_B_critical_375 rfl (lv_at hl 1 rfl) ?_
                              refine lv_iconst (v := 1) hx hb d_B_critical_376 (by decide) ?_
                              refine lv_isub hx hb d_B_critical_377 ?_
                              refine lv_iload_n hx hb d_B_critical_378 rfl (lv_at hl 3 rfl) ?_
                              refine lv_isub hx hb d_B_critical_379 ?_
                              refine sg_iald hx hb hK hw 7 0 rfl rfl d_B_critical_380 hm (fun hm => ?_)
                              refine lv_goto (tgt := 385) hx hb d_B_critical_381 (by decide) ?_
                              exact so_iret (rf := fun z_ => z_.1) (Sf := fun z_ => sc_B_critical cI cL cM cZ q_p0 q_p0_text q_p0_names q_p0_calendars q_p0_priorities q_p0_starts q_p0_estimates q_p0_many q_p0_newNames q_p0_numbers q_p0_newMany q_p0_needs q_p0_conditions q_p0_newNeeds q_p0_newConditions q_p0_needPlaces q_p0_rules q_p0_of q_p0_holidays q_p0_states q_p0_ran q_p0_sums q_p0_kept q_p0_startedJob q_p0_startedAt q_p0_ring q_p0_came q_p0_level q_p0_again q_p0_way q_p0_before q_p0_path z_.2.1 v_p0_length v_p0_jobs v_p0_newJobs v_p0_made v_p0_days v_p0_now v_p0_started v_p0_ringSize v_p0_place f_p0_estimates f_p0_many f_p0_needs f_p0_states z_.2.2.1 z_.2.2.2.1 z_.2.2.2.2) hm hx hb hr hlocks hAe hQ hK hw rfl d_B_critical_385
                        · refine lv_aload_n hx hb d_B_critical_339 rfl (lv_at hl 2 rfl) ?_
                          refine sg_get (D := (dC, dI)) (ci := 9) (v := .ref q_p0_path) (C := "JobNetsModel") (T := T_9) (N := 41) hx hb hts hin_9 hown hK hw 0 rfl rfl 39 (by decide) (hts _ wd_655) rfl rfl d_B_critical_340 ?_
                          refine lv_iload_n hx hb d_B_critical_343 rfl (lv_at hl 1 rfl) ?_
                          refine lv_iload hx hb d_B_critical_344 (lv_at hl 0 rfl) ?_
                          refine sg_iast (S1 := fun f12 => [[(q_p0, .inr (9, [.int (0 : Int32), .ref q_p0_text, .int v_p0_length, .int v_p0_jobs, .int v_p0_newJobs, .ref q_p0_names, .ref q_p0_calendars, .ref q_p0_priorities, .ref q_p0_starts, .ref q_p0_estimates, .ref q_p0_many, .ref q_p0_newNames, .ref q_p0_numbers, .ref q_p0_newMany, .ref q_p0_needs, .ref q_p0_conditions, .ref q_p0_newNeeds, .ref q_p0_newConditions, .ref q_p0_needPlaces, .ref q_p0_rules, .ref q_p0_of, .int v_p0_made, .ref q_p0_holidays, .int v_p0_days, .ref q_p0_states, .ref q_p0_ran, .ref q_p0_sums, .ref q_p0_kept, .long v_p0_now, .ref q_p0_startedJob, .ref q_p0_startedAt, .int v_p0_started, .ref q_p0_ring, .ref q_p0_came, .ref q_p0_level, .int v_p0_ringSize, .ref q_p0_again, .ref q_p0_way, .ref q_p0_before, .ref q_p0_path, .int v_p0_place]))], [(q_p0_estimates, .inl (cI, 27, .inl f_p0_estimates))], [(q_p0_many, .inl (cI, 27, .inl f_p0_many))], [(q_p0_needs, .inl (cI, 540, .inl f_p0_needs))], [(q_p0_states, .inl (cI, 27, .inl f_p0_states))], [(q_p0_way, .inl (cL, 27, .inr (.inl f5)))], [(q_p0_before, .inl (cI, 27, .inl f6))], [(q_p0_path, .inl (cI, 27, .inl f12))]]) hx hb hK hw 7 0 rfl rfl d_B_critical_346 (fun _ => rfl) hm (fun f12 H locs hm hw => ?_)
                          refine lv_iinc (v := x10 + 1) (lv' := [(3, .int (x10 + 1)), (4, .int x9), (0, .ref q_p0), (1, .int a1_x)]) hx hb d_B_critical_347 hl (k := 1) rfl rfl (by decide) rfl (fun ls hl => ?_)
                          refine lv_aload_n hx hb d_B_critical_350 rfl (lv_at hl 2 rfl) ?_
                          refine sg_get (D := (dC, dI)) (ci := 9) (v := .ref q_p0_before) (C := "JobNetsModel") (T := T_9) (N := 41) hx hb hts hin_9 hown hK hw 0 rfl rfl 38 (by decide) (hts _ wd_654) rfl rfl d_B_critical_351 ?_
                          refine lv_iload hx hb d_B_critical_354 (lv_at hl 1 rfl) ?_
                          refine sg_iald hx hb hK hw 6 0 rfl rfl d_B_critical_356 hm (fun hm => ?_)
                          refine lv_istore (lv' := [(4, .int (f6 x9.toNatClampNeg)), (3, .int (x10 + 1)), (0, .ref q_p0), (1, .int a1_x)]) hx hb d_B_critical_357 hl (by decide) rfl (fun ls hl => ?_)
                          refine lv_goto (tgt := 334) hx hb d_B_critical_359 (by decide) ?_
                          exact ih334 (f6 x9.toNatClampNeg) (x10 + 1) f12 hm _ _ _ hw hl
                    exact L334 _ _ _ _ hm _ _ _ hw (lv_sub hl [0, 1, 3, 4] rfl)
                  · refine lv_aload_n hx hb d_B_critical_288 rfl (lv_at hl 2 rfl) ?_
                    refine sg_get (D := (dC, dI)) (ci := 9) (v := .ref q_p0_states) (C := "JobNetsModel") (T := T_9) (N := 41) hx hb hts hin_9 hown hK hw 0 rfl rfl 24 (by decide) (hts _ wd_640) rfl rfl d_B_critical_289 ?_
                    refine lv_iload_n hx hb d_B_critical_292 rfl (lv_at hl 0 rfl) ?_
                    refine sg_iald hx hb hK hw 4 0 rfl rfl d_B_critical_293 hm (fun hm => ?_)
                    refine bq_t (lv_if_eq (tgt := 321) hx hb d_B_critical_294 (by decide)) hm (fun hm => ?_) (fun hm => ?_)
                    · refine lv_iload_n hx hb d_B_critical_321 rfl (lv_at hl 1 rfl) ?_
                      refine lv_istore_n (lv' := [(2, .int x8), (3, .int x7), (0, .ref q_p0), (1, .int a1_x)]) hx hb d_B_critical_322 rfl hl (by decide) rfl (fun ls hl => ?_)
                      refine lv_iinc (v := x7 + 1) (lv' := [(3, .int (x7 + 1)), (2, .int x8), (0, .ref q_p0), (1, .int a1_x)]) hx hb d_B_critical_323 hl (k := 1) rfl rfl (by decide) rfl (fun ls hl => ?_)
                      refine lv_goto (tgt := 280) hx hb d_B_critical_326 (by decide) ?_
                      exact ih280 (x7 + 1) x8 hm _ _ _ hw hl
                    · refine lv_iload_n hx hb d_B_critical_297 rfl (lv_at hl 1 rfl) ?_
                      refine bq_t (lv_if_eq (tgt := 317) hx hb d_B_critical_298 (by decide)) hm (fun hm => ?_) (fun hm => ?_)
                      · refine lv_iload_n hx hb d_B_critical_317 rfl (lv_at hl 0 rfl) ?_
                        refine lv_goto (tgt := 322) hx hb d_B_critical_318 (by decide) ?_
                        refine lv_istore_n (lv' := [(2, .int x7), (3, .int x7), (0, .ref q_p0), (1, .int a1_x)]) hx hb d_B_critical_322 rfl hl (by decide) rfl (fun ls hl => ?_)
                        refine lv_iinc (v := x7 + 1) (lv' := [(3, .int (x7 + 1)), (2, .int x7), (0, .ref q_p0), (1, .int a1_x)]) hx hb d_B_critical_323 hl (k := 1) rfl rfl (by decide) rfl (fun ls hl => ?_)
                        refine lv_goto (tgt := 280) hx hb d_B_critical_326 (by decide) ?_
                        exact ih280 (x7 + 1) x7 hm _ _ _ hw hl
                      · refine lv_aload_n hx hb d_B_critical_301 rfl (lv_at hl 2 rfl) ?_
                        refine sg_get (D := (dC, dI)) (ci := 9) (v := .ref q_p0_way) (C := "JobNetsModel") (T := T_9) (N := 41) hx hb hts hin_9 hown hK hw 0 rfl rfl 37 (by decide) (hts _ wd_653) rfl rfl d_B_critical_302 ?_
                        refine lv_iload_n hx hb d_B_critical_305 rfl (lv_at hl 0 rfl) ?_
                        refine sg_lald hx hb hK hw 5 1 rfl rfl d_B_critical_306 hm (fun hm => ?_)
                        refine lv_aload_n hx hb d_B_critical_307 rfl (lv_at hl 2 rfl) ?_
                        refine sg_get (D := (dC, dI)) (ci := 9) (v := .ref q_p0_way) (C := "JobNetsModel") (T := T_9) (N := 41) hx hb hts hin_9 hown hK hw 0 rfl rfl 37 (by decide) (hts _ wd_653) rfl rfl d_B_critical_308 ?_
                        refine lv_iload_n hx hb d_B_critical_311 rfl (lv_at hl 1 rfl) ?_
                        refine sg_lald hx hb hK hw 5 1 rfl rfl d_B_critical_312 hm (fun hm => ?_)
                        refine W.lcmp hx hb d_B_critical_313 ?_
                        refine bq_t (lv_if_le (tgt := 321) hx hb d_B_critical_314 (by decide)) hm (fun hm => ?_) (fun hm => ?_)
                        · refine lv_iload_n hx hb d_B_critical_321 rfl (lv_at hl 1 rfl) ?_
                          refine lv_istore_n (lv' := [(2, .int x8), (3, .int x7), (0, .ref q_p0), (1, .int a1_x)]) hx hb d_B_critical_322 rfl hl (by decide) rfl (fun ls hl => ?_)
                          refine lv_iinc (v := x7 + 1) (lv' := [(3, .int (x7 + 1)), (2, .int x8), (0, .ref q_p0), (1, .int a1_x)]) hx hb d_B_critical_323 hl (k := 1) rfl rfl (by decide) rfl (fun ls hl => ?_)
                          refine lv_goto (tgt := 280) hx hb d_B_critical_326 (by decide) ?_
                          exact ih280 (x7 + 1) x8 hm _ _ _ hw hl
                        · refine lv_iload_n hx hb d_B_critical_317 rfl (lv_at hl 0 rfl) ?_
                          refine lv_goto (tgt := 322) hx hb d_B_critical_318 (by decide) ?_
                          refine lv_istore_n (lv' := [(2, .int x7), (3, .int x7), (0, .ref q_p0), (1, .int a1_x)]) hx hb d_B_critical_322 rfl hl (by decide) rfl (fun ls hl => ?_)
                          refine lv_iinc (v := x7 + 1) (lv' := [(3, .int (x7 + 1)), (2, .int x7), (0, .ref q_p0), (1, .int a1_x)]) hx hb d_B_critical_323 hl (k := 1) rfl rfl (by decide) rfl (fun ls hl => ?_)
                          refine lv_goto (tgt := 280) hx hb d_B_critical_326 (by decide) ?_
                          exact ih280 (x7 + 1) x7 hm _ _ _ hw hl
              exact L280 _ _ _ hm _ _ _ hw hl
            · refine lv_iconst (v := 1) hx hb d_B_critical_45 (by decide) ?_
              refine lv_istore_n (lv' := [(3, .int (1 : Int32)), (2, .int x4), (0, .ref q_p0), (1, .int a1_x)]) hx hb d_B_critical_46 rfl hl (by decide) rfl (fun ls hl => ?_)
              obtain ⟨Fn47, hFn47, hm⟩ := fx3_x hm
              have L47 : ∀ (n : Nat) (x13 : Int32) (f14 : Nat → Int64) (f15 : Nat → Int32), fx3 Fn47 n x13 f14 f15 = some o → ∀ (H : Heap) (locs : List Loc) (ls : Array Slot), wk (dC, dI) vwCl A s.heap [[(q_p0, .inr (9, [.int (0 : Int32), .ref q_p0_text, .int v_p0_length, .int v_p0_jobs, .int v_p0_newJobs, .ref q_p0_names, .ref q_p0_calendars, .ref q_p0_priorities, .ref q_p0_starts, .ref q_p0_estimates, .ref q_p0_many, .ref q_p0_newNames, .ref q_p0_numbers, .ref q_p0_newMany, .ref q_p0_needs, .ref q_p0_conditions, .ref q_p0_newNeeds, .ref q_p0_newConditions, .ref q_p0_needPlaces, .ref q_p0_rules, .ref q_p0_of, .int v_p0_made, .ref q_p0_holidays, .int v_p0_days, .ref q_p0_states, .ref q_p0_ran, .ref q_p0_sums, .ref q_p0_kept, .long v_p0_now, .ref q_p0_startedJob, .ref q_p0_startedAt, .int v_p0_started, .ref q_p0_ring, .ref q_p0_came, .ref q_p0_level, .int v_p0_ringSize, .ref q_p0_again, .ref q_p0_way, .ref q_p0_before, .ref q_p0_path, .int v_p0_place]))], [(q_p0_estimates, .inl (cI, 27, .inl f_p0_estimates))], [(q_p0_many, .inl (cI, 27, .inl f_p0_many))], [(q_p0_needs, .inl (cI, 540, .inl f_p0_needs))], [(q_p0_states, .inl (cI, 27, .inl f_p0_states))], [(q_p0_way, .inl (cL, 27, .inr (.inl f14)))], [(q_p0_before, .inl (cI, 27, .inl f15))], [(q_p0_path, .inl (cI, 27, .inl f_p0_path))]] H locs → lv_has ls 8 [(3, .int x13), (2, .int x4), (0, .ref q_p0), (1, .int a1_x)] → W p l e rm_B_critical s m args below meth c H locs 0 0 Q (F0 m 47 ls []) := by
                intro n
                induction n with
                | zero => intro x13 f14 f15 hm; exact (fx3_0 hm).elim
                | succ n ih47 =>
                  intro x13 f14 f15 hm H locs ls hw hl
                  have hm := fx3_s hFn47 hm
                  unfold md_B_critical_F47 at hm
                  refine lv_iload_n hx hb d_B_critical_47 rfl (lv_at hl 0 rfl) ?_
                  refine lv_aload_n hx hb d_B_critical_48 rfl (lv_at hl 2 rfl) ?_
                  refine sg_get (D := (dC, dI)) (ci := 9) (v := .int v_p0_jobs) (C := "JobNetsModel") (T := T_9) (N := 41) hx hb hts hin_9 hown hK hw 0 rfl rfl 3 (by decide) (hts _ wd_619) rfl rfl d_B_critical_49 ?_
                  refine bq_t (lv_icmp_gt (tgt := 270) hx hb d_B_critical_52 (by decide)) hm (fun hm => ?_) (fun hm => ?_)
                  · refine lv_iinc (v := x4 + 1) (lv' := [(2, .int (x4 + 1)), (3, .int x13), (0, .ref q_p0), (1, .int a1_x)]) hx hb d_B_critical_270 hl (k := 1) rfl rfl (by decide) rfl (fun ls hl => ?_)
                    refine lv_goto (tgt := 37) hx hb d_B_critical_273 (by decide) ?_
                    exact ih37 (x4 + 1) f14 f15 hm _ _ _ hw (lv_sub hl [0, 2, 3] rfl)
                  · refine lv_aload_n hx hb d_B_critical_55 rfl (lv_at hl 2 rfl) ?_
                    refine sg_get (D := (dC, dI)) (ci := 9) (v := .ref q_p0_way) (C := "JobNetsModel") (T := T_9) (N := 41) hx hb hts hin_9 hown hK hw 0 rfl rfl 37 (by decide) (hts _ wd_653) rfl rfl d_B_critical_56 ?_
                    refine lv_iload_n hx hb d_B_critical_59 rfl (lv_at hl 0 rfl) ?_
                    refine sg_lald hx hb hK hw 5 1 rfl rfl d_B_critical_60 hm (fun hm => ?_)
                    refine lv_ldc2 hx hb (v := -1) hown (hts _ wd_816) d_B_critical_61 ?_
                    refine W.lcmp hx hb d_B_critical_64 ?_
                    refine bq_n (lv_if_ne (tgt := 264) hx hb d_B_critical_65 (by decide)) hm (fun hm => ?_) (fun hm => ?_)
                    · refine lv_iinc (v := x13 + 1) (lv' := [(3, .int (x13 + 1)), (2, .int x4), (0, .ref q_p0), (1, .int a1_x)]) hx hb d_B_critical_264 hl (k := 0) rfl rfl (by decide) rfl (fun ls hl => ?_)
                      refine lv_goto (tgt := 47) hx hb d_B_critical_267 (by decide) ?_
                      exact ih47 (x13 + 1) f14 f15 hm _ _ _ hw hl
                    · refine lv_aload_n hx hb d_B_critical_68 rfl (lv_at hl 2 rfl) ?_
                      refine sg_get (D := (dC, dI)) (ci := 9) (v := .ref q_p0_states) (C := "JobNetsModel") (T := T_9) (N := 41) hx hb hts hin_9 hown hK hw 0 rfl rfl 24 (by decide) (hts _ wd_640) rfl rfl d_B_critical_69 ?_
                      refine lv_iload_n hx hb d_B_critical_72 rfl (lv_at hl 0 rfl) ?_
                      refine sg_iald hx hb hK hw 4 0 rfl rfl d_B_critical_73 hm (fun hm => ?_)
                      refine bq_n (lv_if_ne (tgt := 80) hx hb d_B_critical_74 (by decide)) hm (fun hm => ?_) (fun hm => ?_)
                      · refine lv_iconst (v := 1) hx hb d_B_critical_80 (by decide) ?_
                        refine lv_istore (lv' := [(4, .int (1 : Int32)), (3, .int x13), (2, .int x4), (0, .ref q_p0), (1, .int a1_x)]) hx hb d_B_critical_81 hl (by decide) rfl (fun ls hl => ?_)
                        refine lv_iconst (v := 0) hx hb d_B_critical_83 (by decide) ?_
                        refine lv_istore (lv' := [(5, .int (0 : Int32)), (4, .int (1 : Int32)), (3, .int x13), (2, .int x4), (0, .ref q_p0), (1, .int a1_x)]) hx hb d_B_critical_84 hl (by decide) rfl (fun ls hl => ?_)
                        refine lv_iconst (v := 0) hx hb d_B_critical_86 (by decide) ?_
                        refine lv_istore (lv' := [(6, .int (0 : Int32)), (5, .int (0 : Int32)), (4, .int (1 : Int32)), (3, .int x13), (2, .int x4), (0, .ref q_p0), (1, .int a1_x)]) hx hb d_B_critical_87 hl (by decide) rfl (fun ls hl => ?_)
                        obtain ⟨Fn89, hFn89, hm⟩ := fx3_x hm
                        have L89 : ∀ (n : Nat) (x16 : Int32) (x17 : Int32) (x18 : Int32), fx3 Fn89 n x16 x17 x18 = some o → ∀ (H : Heap) (locs : List Loc) (ls : Array Slot), wk (dC, dI) vwCl A s.heap [[(q_p0, .inr (9, [.int (0 : Int32), .ref q_p0_text, .int v_p0_length, .int v_p0_jobs, .int v_p0_newJobs, .ref q_p0_names, .ref q_p0_calendars, .ref q_p0_priorities, .ref q_p0_starts, .ref q_p0_estimates, .ref q_p0_many, .ref q_p0_newNames, .ref q_p0_numbers, .ref q_p0_newMany, .ref q_p0_needs, .ref q_p0_conditions, .ref q_p0_newNeeds, .ref q_p0_newConditions, .ref q_p0_needPlaces, .ref q_p0_rules, .ref q_p0_of, .int v_p0_made, .ref q_p0_holidays, .int v_p0_days, .ref q_p0_states, .ref q_p0_ran, .ref q_p0_sums, .ref q_p0_kept, .long v_p0_now, .ref q_p0_startedJob, .ref q_p0_startedAt, .int v_p0_started, .ref q_p0_ring, .ref q_p0_came, .ref q_p0_level, .int v_p0_ringSize, .ref q_p0_again, .ref q_p0_way, .ref q_p0_before, .ref q_p0_path, .int v_p0_place]))], [(q_p0_estimates, .inl (cI, 27, .inl f_p0_estimates))], [(q_p0_many, .inl (cI, 27, .inl f_p0_many))], [(q_p0_needs, .inl (cI, 540, .inl f_p0_needs))], [(q_p0_states, .inl (cI, 27, .inl f_p0_states))], [(q_p0_way, .inl (cL, 27, .inr (.inl f14)))], [(q_p0_before, .inl (cI, 27, .inl f15))], [(q_p0_path, .inl (cI, 27, .inl f_p0_path))]] H locs → lv_has ls 8 [(6, .int x16), (5, .int x17), (4, .int x18), (3, .int x13), (2, .int x4), (0, .ref q_p0), (1, .int a1_x)] → W p l e rm_B_critical s m args below meth c H locs 0 0 Q (F0 m 89 ls []) := by
                          intro n
                          induction n with
                          | zero => intro x16 x17 x18 hm; exact (fx3_0 hm).elim
                          | succ n ih89 =>
                            intro x16 x17 x18 hm H locs ls hw hl
                            have hm := fx3_s hFn89 hm
                            unfold md_B_critical_F89 at hm
                            refine lv_iload hx hb d_B_critical_89 (lv_at hl 0 rfl) ?_
                            refine lv_aload_n hx hb d_B_critical_91 rfl (lv_at hl 5 rfl) ?_
                            refine sg_get (D := (dC, dI)) (ci := 9) (v := .ref q_p0_many) (C := "JobNetsModel") (T := T_9) (N := 41) hx hb hts hin_9 hown hK hw 0 rfl rfl 10 (by decide) (hts _ wd_626) rfl rfl d_B_critical_92 ?_
                            refine lv_iload_n hx hb d_B_critical_95 rfl (lv_at hl 3 rfl) ?_
                            refine sg_iald hx hb hK hw 2 0 rfl rfl d_B_critical_96 hm (fun hm => ?_)
                            refine bq_t (lv_icmp_ge (tgt := 218) hx hb d_B_critical_97 (by decide)) hm (fun hm => ?_) (fun hm => ?_)
                            · refine lv_iload hx hb d_B_critical_218 (lv_at hl 2 rfl) ?_
                              refine bq_n (lv_if_ne (tgt := 226) hx hb d_B_critical_220 (by decide)) hm (fun hm => ?_) (fun hm => ?_)
                              · refine lv_aload_n hx hb d_B_critical_226 rfl (lv_at hl 5 rfl) ?_
                                refine sg_get (D := (dC, dI)) (ci := 9) (v := .ref q_p0_before) (C := "JobNetsModel") (T := T_9) (N := 41) hx hb hts hin_9 hown hK hw 0 rfl rfl 38 (by decide) (hts _ wd_654) rfl rfl d_B_critical_227 ?_
                                refine lv_iload_n hx hb d_B_critical_230 rfl (lv_at hl 3 rfl) ?_
                                refine lv_iload hx hb d_B_critical_231 (lv_at hl 1 rfl) ?_
                                refine sg_iast (S1 := fun f19 => [[(q_p0, .inr (9, [.int (0 : Int32), .ref q_p0_text, .int v_p0_length, .int v_p0_jobs, .int v_p0_newJobs, .ref q_p0_names, .ref q_p0_calendars, .ref q_p0_priorities, .ref q_p0_starts, .ref q_p0_estimates, .ref q_p0_many, .ref q_p0_newNames, .ref q_p0_numbers, .ref q_p0_newMany, .ref q_p0_needs, .ref q_p0_conditions, .ref q_p0_newNeeds, .ref q_p0_newConditions, .ref q_p0_needPlaces, .ref q_p0_rules, .ref q_p0_of, .int v_p0_made, .ref q_p0_holidays, .int v_p0_days, .ref q_p0_states, .ref q_p0_ran, .ref q_p0_sums, .ref q_p0_kept, .long v_p0_now, .ref q_p0_startedJob, .ref q_p0_startedAt, .int v_p0_started, .ref q_p0_ring, .ref q_p0_came, .ref q_p0_level, .int v_p0_ringSize, .ref q_p0_again, .ref q_p0_way, .ref q_p0_before, .ref q_p0_path, .int v_p0_place]))], [(q_p0_estimates, .inl (cI, 27, .inl f_p0_estimates))], [(q_p0_many, .inl (cI, 27, .inl f_p0_many))], [(q_p0_needs, .inl (cI, 540, .inl f_p0_needs))], [(q_p0_states, .inl (cI, 27, .inl f_p0_states))], [(q_p0_way, .inl (cL, 27, .inr (.inl f14)))], [(q_p0_before, .inl (cI, 27, .inl f19))], [(q_p0_path, .inl (cI, 27, .inl f_p0_path))]]) hx hb hK hw 6 0 rfl rfl d_B_critical_233 (fun _ => rfl) hm (fun f19 H locs hm hw => ?_)
                                refine lv_aload_n hx hb d_B_critical_234 rfl (lv_at hl 5 rfl) ?_
                                refine sg_get (D := (dC, dI)) (ci := 9) (v := .ref q_p0_way) (C := "JobNetsModel") (T := T_9) (N := 41) hx hb hts hin_9 hown hK hw 0 rfl rfl 37 (by decide) (hts _ wd_653) rfl rfl d_B_critical_235 ?_
                                refine lv_iload_n hx hb d_B_critical_238 rfl (lv_at hl 3 rfl) ?_
                                refine lv_aload_n hx hb d_B_critical_239 rfl (lv_at hl 5 rfl) ?_
                                refine sg_get (D := (dC, dI)) (ci := 9) (v := .ref q_p0_estimates) (C := "JobNetsModel") (T := T_9) (N := 41) hx hb hts hin_9 hown hK hw 0 rfl rfl 9 (by decide) (hts _ wd_625) rfl rfl d_B_critical_240 ?_
                                refine lv_iload_n hx hb d_B_critical_243 rfl (lv_at hl 3 rfl) ?_
                                refine sg_iald hx hb hK hw 1 0 rfl rfl d_B_critical_244 hm (fun hm => ?_)
                                refine lv_i2l hx hb d_B_critical_245 rfl ?_
                                refine lv_iload hx hb d_B_critical_246 (lv_at hl 1 rfl) ?_
                                refine bq_n (lv_if_ne (tgt := 255) hx hb d_B_critical_248 (by decide)) hm (fun hm => ?_) (fun hm => ?_)
                                · refine lv_aload_n hx hb d_B_critical_255 rfl (lv_at hl 5 rfl) ?_
                                  refine sg_get (D := (dC, dI)) (ci := 9) (v := .ref q_p0_way) (C := "JobNetsModel") (T := T_9) (N := 41) hx hb hts hin_9 hown hK hw 0 rfl rfl 37 (by decide) (hts _ wd_653) rfl rfl d_B_critical_256 ?_
                                  refine lv_iload hx hb d_B_critical_259 (lv_at hl 1 rfl) ?_
                                  refine sg_lald hx hb hK hw 5 1 rfl rfl d_B_critical_261 hm (fun hm => ?_)
                                  refine lv_ladd hx hb d_B_critical_262 ?_
                                  refine sg_last (S1 := fun f20 => [[(q_p0, .inr (9, [.int (0 : Int32), .ref q_p0_text, .int v_p0_length, .int v_p0_jobs, .int v_p0_newJobs, .ref q_p0_names, .ref q_p0_calendars, .ref q_p0_priorities, .ref q_p0_starts, .ref q_p0_estimates, .ref q_p0_many, .ref q_p0_newNames, .ref q_p0_numbers, .ref q_p0_newMany, .ref q_p0_needs, .ref q_p0_conditions, .ref q_p0_newNeeds, .ref q_p0_newConditions, .ref q_p0_needPlaces, .ref q_p0_rules, .ref q_p0_of, .int v_p0_made, .ref q_p0_holidays, .int v_p0_days, .ref q_p0_states, .ref q_p0_ran, .ref q_p0_sums, .ref q_p0_kept, .long v_p0_now, .ref q_p0_startedJob, .ref q_p0_startedAt, .int v_p0_started, .ref q_p0_ring, .ref q_p0_came, .ref q_p0_level, .int v_p0_ringSize, .ref q_p0_again, .ref q_p0_way, .ref q_p0_before, .ref q_p0_path, .int v_p0_place]))], [(q_p0_estimates, .inl (cI, 27, .inl f_p0_estimates))], [(q_p0_many, .inl (cI, 27, .inl f_p0_many))], [(q_p0_needs, .inl (cI, 540, .inl f_p0_needs))], [(q_p0_states, .inl (cI, 27, .inl f_p0_states))], [(q_p0_way, .inl (cL, 27, .inr (.inl f20)))], [(q_p0_before, .inl (cI, 27, .inl f19))], [(q_p0_path, .inl (cI, 27, .inl f_p0_path))]]) hx hb hK hw 5 1 rfl rfl d_B_critical_263 (fun _ => rfl) hm (fun f20 H locs hm hw => ?_)
                                  refine lv_iinc (v := x13 + 1) (lv' := [(3, .int (x13 + 1)), (6, .int x16), (5, .int x17), (4, .int x18), (2, .int x4), (0, .ref q_p0), (1, .int a1_x)]) hx hb d_B_critical_264 hl (k := 3) rfl rfl (by decide) rfl (fun ls hl => ?_)
                                  refine lv_goto (tgt := 47) hx hb d_B_critical_267 (by decide) ?_
                                  exact ih47 (x13 + 1) f20 f19 hm _ _ _ hw (lv_sub hl [0, 4, 5, 6] rfl)
                                · refine lv_lconst (v := 0) hx hb d_B_critical_251 (by decide) ?_
                                  refine lv_goto (tgt := 262) hx hb d_B_critical_252 (by decide) ?_
                                  refine lv_ladd hx hb d_B_critical_262 ?_
                                  refine sg_last (S1 := fun f21 => [[(q_p0, .inr (9, [.int (0 : Int32), .ref q_p0_text, .int v_p0_length, .int v_p0_jobs, .int v_p0_newJobs, .ref q_p0_names, .ref q_p0_calendars, .ref q_p0_priorities, .ref q_p0_starts, .ref q_p0_estimates, .ref q_p0_many, .ref q_p0_newNames, .ref q_p0_numbers, .ref q_p0_newMany, .ref q_p0_needs, .ref q_p0_conditions, .ref q_p0_newNeeds, .ref q_p0_newConditions, .ref q_p0_needPlaces, .ref q_p0_rules, .ref q_p0_of, .int v_p0_made, .ref q_p0_holidays, .int v_p0_days, .ref q_p0_states, .ref q_p0_ran, .ref q_p0_sums, .ref q_p0_kept, .long v_p0_now, .ref q_p0_startedJob, .ref q_p0_startedAt, .int v_p0_started, .ref q_p0_ring, .ref q_p0_came, .ref q_p0_level, .int v_p0_ringSize, .ref q_p0_again, .ref q_p0_way, .ref q_p0_before, .ref q_p0_path, .int v_p0_place]))], [(q_p0_estimates, .inl (cI, 27, .inl f_p0_estimates))], [(q_p0_many, .inl (cI, 27, .inl f_p0_many))], [(q_p0_needs, .inl (cI, 540, .inl f_p0_needs))], [(q_p0_states, .inl (cI, 27, .inl f_p0_states))], [(q_p0_way, .inl (cL, 27, .inr (.inl f21)))], [(q_p0_before, .inl (cI, 27, .inl f19))], [(q_p0_path, .inl (cI, 27, .inl f_p0_path))]]) hx hb hK hw 5 1 rfl rfl d_B_critical_263 (fun _ => rfl) hm (fun f21 H locs hm hw => ?_)
                                  refine lv_iinc (v := x13 + 1) (lv' := [(3, .int (x13 + 1)), (6, .int x16), (5, .int x17), (4, .int x18), (2, .int x4), (0, .ref q_p0), (1, .int a1_x)]) hx hb d_B_critical_264 hl (k := 3) rfl rfl (by decide) rfl (fun ls hl => ?_)
                                  refine lv_goto (tgt := 47) hx hb d_B_critical_267 (by decide) ?_
                                  exact ih47 (x13 + 1) f21 f19 hm _ _ _ hw (lv_sub hl [0, 4, 5, 6] rfl)
                              · refine lv_goto (tgt := 264) hx hb d_B_critical_223 (by decide) ?_
                                refine lv_iinc (v := x13 + 1) (lv' := [(3, .int (x13 + 1)), (6, .int x16), (5, .int x17), (4, .int x18), (2, .int x4), (0, .ref q_p0), (1, .int a1_x)]) hx hb d_B_critical_264 hl (k := 3) rfl rfl (by decide) rfl (fun ls hl => ?_)
                                refine lv_goto (tgt := 47) hx hb d_B_critical_267 (by decide) ?_
                                exact ih47 (x13 + 1) f14 f15 hm _ _ _ hw (lv_sub hl [0, 4, 5, 6] rfl)
                            · refine lv_aload_n hx hb d_B_critical_100 rfl (lv_at hl 5 rfl) ?_
                              refine sg_get (D := (dC, dI)) (ci := 9) (v := .ref q_p0_needs) (C := "JobNetsModel") (T := T_9) (N := 41) hx hb hts hin_9 hown hK hw 0 rfl rfl 14 (by decide) (hts _ wd_630) rfl rfl d_B_critical_101 ?_
                              refine lv_bipush (v := 20) hx hb d_B_critical_104 (by decide) ?_
                              refine lv_iload_n hx hb d_B_critical_106 rfl (lv_at hl 3 rfl) ?_
                              refine lv_iconst (v := 1) hx hb d_B_critical_107 (by decide) ?_
                              refine lv_isub hx hb d_B_critical_108 ?_
                              refine lv_imul hx hb d_B_critical_109 ?_
                              refine lv_iload hx hb d_B_critical_110 (lv_at hl 0 rfl) ?_
                              refine lv_iadd hx hb d_B_critical_112 ?_
                              refine sg_iald hx hb hK hw 3 0 rfl rfl d_B_critical_113 hm (fun hm => ?_)
                              refine nm_i hm (fun x22 hm => ?_)
                              refine lv_istore (lv' := [(7, .int x22), (6, .int x16), (5, .int x17), (4, .int x18), (3, .int x13), (2, .int x4), (0, .ref q_p0), (1, .int a1_x)]) hx hb d_B_critical_114 hl (by decide) rfl (fun ls hl => ?_)
                              refine lv_aload_n hx hb d_B_critical_116 rfl (lv_at hl 6 rfl) ?_
                              refine sg_get (D := (dC, dI)) (ci := 9) (v := .ref q_p0_states) (C := "JobNetsModel") (T := T_9) (N := 41) hx hb hts hin_9 hown hK hw 0 rfl rfl 24 (by decide) (hts _ wd_640) rfl rfl d_B_critical_117 ?_
                              refine lv_iload hx hb d_B_critical_120 (lv_at hl 0 rfl) ?_
                              refine sg_iald hx hb hK hw 4 0 rfl rfl d_B_critical_122 hm (fun hm => ?_)
                              refine bq_n (lv_if_ne (tgt := 129) hx hb d_B_critical_123 (by decide)) hm (fun hm => ?_) (fun hm => ?_)
                              · refine lv_iload hx hb d_B_critical_129 (lv_at hl 3 rfl) ?_
                                obtain ⟨k153, hk153, hm⟩ := zl_x hm
                                have J153 : ∀ (x23 : Int32) , k153 x23 = some o → ∀ (H : Heap) (locs : List Loc) (ls : Array Slot), wk (dC, dI) vwCl A s.heap [[(q_p0, .inr (9, [.int (0 : Int32), .ref q_p0_text, .int v_p0_length, .int v_p0_jobs, .int v_p0_newJobs, .ref q_p0_names, .ref q_p0_calendars, .ref q_p0_priorities, .ref q_p0_starts, .ref q_p0_estimates, .ref q_p0_many, .ref q_p0_newNames, .ref q_p0_numbers, .ref q_p0_newMany, .ref q_p0_needs, .ref q_p0_conditions, .ref q_p0_newNeeds, .ref q_p0_newConditions, .ref q_p0_needPlaces, .ref q_p0_rules, .ref q_p0_of, .int v_p0_made, .ref q_p0_holidays, .int v_p0_days, .ref q_p0_states, .ref q_p0_ran, .ref q_p0_sums, .ref q_p0_kept, .long v_p0_now, .ref q_p0_startedJob, .ref q_p0_startedAt, .int v_p0_started, .ref q_p0_ring, .ref q_p0_came, .ref q_p0_level, .int v_p0_ringSize, .ref q_p0_again, .ref q_p0_way, .ref q_p0_before, .ref q_p0_path, .int v_p0_place]))], [(q_p0_estimates, .inl (cI, 27, .inl f_p0_estimates))], [(q_p0_many, .inl (cI, 27, .inl f_p0_many))], [(q_p0_needs, .inl (cI, 540, .inl f_p0_needs))], [(q_p0_states, .inl (cI, 27, .inl f_p0_states))], [(q_p0_way, .inl (cL, 27, .inr (.inl f14)))], [(q_p0_before, .inl (cI, 27, .inl f15))], [(q_p0_path, .inl (cI, 27, .inl f_p0_path))]] H locs → lv_has ls 8 [(7, .int x22), (6, .int x16), (5, .int x17), (3, .int x13), (2, .int x4), (0, .ref q_p0), (1, .int a1_x)] → W p l e rm_B_critical s m args below meth c H locs 0 0 Q (F0 m 153 ls [.int x23]) := by
                                  intro x23 hm H locs ls hw hl
                                  subst hk153
                                  refine lv_istore (lv' := [(4, .int x23), (7, .int x22), (6, .int x16), (5, .int x17), (3, .int x13), (2, .int x4), (0, .ref q_p0), (1, .int a1_x)]) hx hb d_B_critical_153 hl (by decide) rfl (fun ls hl => ?_)
                                  refine lv_iload hx hb d_B_critical_155 (lv_at hl 3 rfl) ?_
                                  refine bq_t (lv_if_eq (tgt := 203) hx hb d_B_critical_157 (by decide)) hm (fun hm => ?_) (fun hm => ?_)
                                  · refine lv_iload hx hb d_B_critical_203 (lv_at hl 1 rfl) ?_
                                    refine lv_goto (tgt := 210) hx hb d_B_critical_205 (by decide) ?_
                                    refine lv_istore (lv' := [(5, .int x22), (4, .int x23), (7, .int x22), (6, .int x16), (3, .int x13), (2, .int x4), (0, .ref q_p0), (1, .int a1_x)]) hx hb d_B_critical_210 hl (by decide) rfl (fun ls hl => ?_)
                                    refine lv_iinc (v := x16 + 1) (lv' := [(6, .int (x16 + 1)), (5, .int x22), (4, .int x23), (7, .int x22), (3, .int x13), (2, .int x4), (0, .ref q_p0), (1, .int a1_x)]) hx hb d_B_critical_212 hl (k := 3) rfl rfl (by decide) rfl (fun ls hl => ?_)
                                    refine lv_goto (tgt := 89) hx hb d_B_critical_215 (by decide) ?_
                                    exact ih89 (x16 + 1) x22 x23 hm _ _ _ hw (lv_sub hl [0, 1, 2, 4, 5, 6, 7] rfl)
                                  · refine lv_aload_n hx hb d_B_critical_160 rfl (lv_at hl 6 rfl) ?_
                                    refine sg_get (D := (dC, dI)) (ci := 9) (v := .ref q_p0_way) (C := "JobNetsModel") (T := T_9) (N := 41) hx hb hts hin_9 hown hK hw 0 rfl rfl 37 (by decide) (hts _ wd_653) rfl rfl d_B_critical_161 ?_
                                    refine lv_iload hx hb d_B_critical_164 (lv_at hl 1 rfl) ?_
                                    refine sg_lald hx hb hK hw 5 1 rfl rfl d_B_critical_166 hm (fun hm => ?_)
                                    refine lv_aload_n hx hb d_B_critical_167 rfl (lv_at hl 6 rfl) ?_
                                    refine sg_get (D := (dC, dI)) (ci := 9) (v := .ref q_p0_way) (C := "JobNetsModel") (T := T_9) (N := 41) hx hb hts hin_9 hown hK hw 0 rfl rfl 37 (by decide) (hts _ wd_653) rfl rfl d_B_critical_168 ?_
                                    refine lv_iload hx hb d_B_critical_171 (lv_at hl 3 rfl) ?_
                                    refine sg_lald hx hb hK hw 5 1 rfl rfl d_B_critical_173 hm (fun hm => ?_)
                                    refine W.lcmp hx hb d_B_critical_174 ?_
                                    refine bq_t (lv_if_gt (tgt := 203) hx hb d_B_critical_175 (by decide)) hm (fun hm => ?_) (fun hm => ?_)
                                    · refine lv_iload hx hb d_B_critical_203 (lv_at hl 1 rfl) ?_
                                      refine lv_goto (tgt := 210) hx hb d_B_critical_205 (by decide) ?_
                                      refine lv_istore (lv' := [(5, .int x22), (4, .int x23), (7, .int x22), (6, .int x16), (3, .int x13), (2, .int x4), (0, .ref q_p0), (1, .int a1_x)]) hx hb d_B_critical_210 hl (by decide) rfl (fun ls hl => ?_)
                                      refine lv_iinc (v := x16 + 1) (lv' := [(6, .int (x16 + 1)), (5, .int x22), (4, .int x23), (7, .int x22), (3, .int x13), (2, .int x4), (0, .ref q_p0), (1, .int a1_x)]) hx hb d_B_critical_212 hl (k := 3) rfl rfl (by decide) rfl (fun ls hl => ?_)
                                      refine lv_goto (tgt := 89) hx hb d_B_critical_215 (by decide) ?_
                                      exact ih89 (x16 + 1) x22 x23 hm _ _ _ hw (lv_sub hl [0, 1, 2, 4, 5, 6, 7] rfl)
                                    · refine lv_aload_n hx hb d_B_critical_178 rfl (lv_at hl 6 rfl) ?_
                                      refine sg_get (D := (dC, dI)) (ci := 9) (v := .ref q_p0_way) (C := "JobNetsModel") (T := T_9) (N := 41) hx hb hts hin_9 hown hK hw 0 rfl rfl 37 (by decide) (hts _ wd_653) rfl rfl d_B_critical_179 ?_
                                      refine lv_iload hx hb d_B_critical_182 (lv_at hl 1 rfl) ?_
                                      refine sg_lald hx hb hK hw 5 1 rfl rfl d_B_critical_184 hm (fun hm => ?_)
                                      refine lv_aload_n hx hb d_B_critical_185 rfl (lv_at hl 6 rfl) ?_
                                      refine sg_get (D := (dC, dI)) (ci := 9) (v := .ref q_p0_way) (C := "JobNetsModel") (T := T_9) (N := 41) hx hb hts hin_9 hown hK hw 0 rfl rfl 37 (by decide) (hts _ wd_653) rfl rfl d_B_critical_186 ?_
                                      refine lv_iload hx hb d_B_critical_189 (lv_at hl 3 rfl) ?_
                                      refine sg_lald hx hb hK hw 5 1 rfl rfl d_B_critical_191 hm (fun hm => ?_)
                                      refine W.lcmp hx hb d_B_critical_192 ?_
                                      refine bq_n (lv_if_ne (tgt := 208) hx hb d_B_critical_193 (by decide)) hm (fun hm => ?_) (fun hm => ?_)
                                      · refine lv_iload hx hb d_B_critical_208 (lv_at hl 3 rfl) ?_
                                        refine lv_istore (lv' := [(5, .int x17), (4, .int x23), (7, .int x22), (6, .int x16), (3, .int x13), (2, .int x4), (0, .ref q_p0), (1, .int a1_x)]) hx hb d_B_critical_210 hl (by decide) rfl (fun ls hl => ?_)
                                        refine lv_iinc (v := x16 + 1) (lv' := [(6, .int (x16 + 1)), (5, .int x17), (4, .int x23), (7, .int x22), (3, .int x13), (2, .int x4), (0, .ref q_p0), (1, .int a1_x)]) hx hb d_B_critical_212 hl (k := 3) rfl rfl (by decide) rfl (fun ls hl => ?_)
                                        refine lv_goto (tgt := 89) hx hb d_B_critical_215 (by decide) ?_
                                        exact ih89 (x16 + 1) x17 x23 hm _ _ _ hw (lv_sub hl [0, 1, 2, 4, 5, 6, 7] rfl)
                                      · refine lv_iload hx hb d_B_critical_196 (lv_at hl 1 rfl) ?_
                                        refine lv_iload hx hb d_B_critical_198 (lv_at hl 3 rfl) ?_
                                        refine bq_t (lv_icmp_ge (tgt := 208) hx hb d_B_critical_200 (by decide)) hm (fun hm => ?_) (fun hm => ?_)
                                        · refine lv_iload hx hb d_B_critical_208 (lv_at hl 3 rfl) ?_
                                          refine lv_istore (lv' := [(5, .int x17), (4, .int x23), (7, .int x22), (6, .int x16), (3, .int x13), (2, .int x4), (0, .ref q_p0), (1, .int a1_x)]) hx hb d_B_critical_210 hl (by decide) rfl (fun ls hl => ?_)
                                          refine lv_iinc (v := x16 + 1) (lv' := [(6, .int (x16 + 1)), (5, .int x17), (4, .int x23), (7, .int x22), (3, .int x13), (2, .int x4), (0, .ref q_p0), (1, .int a1_x)]) hx hb d_B_critical_212 hl (k := 3) rfl rfl (by decide) rfl (fun ls hl => ?_)
                                          refine lv_goto (tgt := 89) hx hb d_B_critical_215 (by decide) ?_
                                          exact ih89 (x16 + 1) x17 x23 hm _ _ _ hw (lv_sub hl [0, 1, 2, 4, 5, 6, 7] rfl)
                                        · refine lv_iload hx hb d_B_critical_203 (lv_at hl 1 rfl) ?_
                                          refine lv_goto (tgt := 210) hx hb d_B_critical_205 (by decide) ?_
                                          refine lv_istore (lv' := [(5, .int x22), (4, .int x23), (7, .int x22), (6, .int x16), (3, .int x13), (2, .int x4), (0, .ref q_p0), (1, .int a1_x)]) hx hb d_B_critical_210 hl (by decide) rfl (fun ls hl => ?_)
                                          refine lv_iinc (v := x16 + 1) (lv' := [(6, .int (x16 + 1)), (5, .int x22), (4, .int x23), (7, .int x22), (3, .int x13), (2, .int x4), (0, .ref q_p0), (1, .int a1_x)]) hx hb d_B_critical_212 hl (k := 3) rfl rfl (by decide) rfl (fun ls hl => ?_)
                                          refine lv_goto (tgt := 89) hx hb d_B_critical_215 (by decide) ?_
                                          exact ih89 (x16 + 1) x22 x23 hm _ _ _ hw (lv_sub hl [0, 1, 2, 4, 5, 6, 7] rfl)
                                obtain ⟨k152, hk152, hm⟩ := zl_x hm
                                have J152 : k152 = some o → ∀ (H : Heap) (locs : List Loc) (ls : Array Slot), wk (dC, dI) vwCl A s.heap [[(q_p0, .inr (9, [.int (0 : Int32), .ref q_p0_text, .int v_p0_length, .int v_p0_jobs, .int v_p0_newJobs, .ref q_p0_names, .ref q_p0_calendars, .ref q_p0_priorities, .ref q_p0_starts, .ref q_p0_estimates, .ref q_p0_many, .ref q_p0_newNames, .ref q_p0_numbers, .ref q_p0_newMany, .ref q_p0_needs, .ref q_p0_conditions, .ref q_p0_newNeeds, .ref q_p0_newConditions, .ref q_p0_needPlaces, .ref q_p0_rules, .ref q_p0_of, .int v_p0_made, .ref q_p0_holidays, .int v_p0_days, .ref q_p0_states, .ref q_p0_ran, .ref q_p0_sums, .ref q_p0_kept, .long v_p0_now, .ref q_p0_startedJob, .ref q_p0_startedAt, .int v_p0_started, .ref q_p0_ring, .ref q_p0_came, .ref q_p0_level, .int v_p0_ringSize, .ref q_p0_again, .ref q_p0_way, .ref q_p0_before, .ref q_p0_path, .int v_p0_place]))], [(q_p0_estimates, .inl (cI, 27, .inl f_p0_estimates))], [(q_p0_many, .inl (cI, 27, .inl f_p0_many))], [(q_p0_needs, .inl (cI, 540, .inl f_p0_needs))], [(q_p0_states, .inl (cI, 27, .inl f_p0_states))], [(q_p0_way, .inl (cL, 27, .inr (.inl f14)))], [(q_p0_before, .inl (cI, 27, .inl f15))], [(q_p0_path, .inl (cI, 27, .inl f_p0_path))]] H locs → lv_has ls 8 [(7, .int x22), (6, .int x16), (5, .int x17), (3, .int x13), (2, .int x4), (0, .ref q_p0), (1, .int a1_x)] → W p l e rm_B_critical s m args below meth c H locs 0 0 Q (F0 m 152 ls []) := by
                                  intro hm H locs ls hw hl
                                  subst hk152
                                  refine lv_iconst (v := 0) hx hb d_B_critical_152 (by decide) ?_
                                  exact J153 (0 : Int32) hm _ _ _ hw hl
                                refine bq_t (lv_if_eq (tgt := 152) hx hb d_B_critical_131 (by decide)) hm (fun hm => ?_) (fun hm => ?_)
                                · exact J152  hm _ _ _ hw (lv_sub hl [0, 1, 2, 4, 5, 6, 7] rfl)
                                · refine lv_aload_n hx hb d_B_critical_134 rfl (lv_at hl 6 rfl) ?_
                                  refine sg_get (D := (dC, dI)) (ci := 9) (v := .ref q_p0_way) (C := "JobNetsModel") (T := T_9) (N := 41) hx hb hts hin_9 hown hK hw 0 rfl rfl 37 (by decide) (hts _ wd_653) rfl rfl d_B_critical_135 ?_
                                  refine lv_iload hx hb d_B_critical_138 (lv_at hl 0 rfl) ?_
                                  refine sg_lald hx hb hK hw 5 1 rfl rfl d_B_critical_140 hm (fun hm => ?_)
                                  refine lv_ldc2 hx hb (v := -1) hown (hts _ wd_816) d_B_critical_141 ?_
                                  refine W.lcmp hx hb d_B_critical_144 ?_
                                  refine bq_t (lv_if_eq (tgt := 152) hx hb d_B_critical_145 (by decide)) hm (fun hm => ?_) (fun hm => ?_)
                                  · exact J152  hm _ _ _ hw (lv_sub hl [0, 1, 2, 4, 5, 6, 7] rfl)
                                  · refine lv_iconst (v := 1) hx hb d_B_critical_148 (by decide) ?_
                                    refine lv_goto (tgt := 153) hx hb d_B_critical_149 (by decide) ?_
                                    exact J153 (1 : Int32) hm _ _ _ hw (lv_sub hl [0, 1, 2, 4, 5, 6, 7] rfl)
                              · refine lv_goto (tgt := 212) hx hb d_B_critical_126 (by decide) ?_
                                refine lv_iinc (v := x16 + 1) (lv' := [(6, .int (x16 + 1)), (7, .int x22), (5, .int x17), (4, .int x18), (3, .int x13), (2, .int x4), (0, .ref q_p0), (1, .int a1_x)]) hx hb d_B_critical_212 hl (k := 1) rfl rfl (by decide) rfl (fun ls hl => ?_)
                                refine lv_goto (tgt := 89) hx hb d_B_critical_215 (by decide) ?_
                                exact ih89 (x16 + 1) x17 x18 hm _ _ _ hw (lv_sub hl [0, 2, 3, 4, 5, 6, 7] rfl)
                        exact L89 _ _ _ _ hm _ _ _ hw hl
                      · refine lv_goto (tgt := 264) hx hb d_B_critical_77 (by decide) ?_
                        refine lv_iinc (v := x13 + 1) (lv' := [(3, .int (x13 + 1)), (2, .int x4), (0, .ref q_p0), (1, .int a1_x)]) hx hb d_B_critical_264 hl (k := 0) rfl rfl (by decide) rfl (fun ls hl => ?_)
                        refine lv_goto (tgt := 47) hx hb d_B_critical_267 (by decide) ?_
                        exact ih47 (x13 + 1) f14 f15 hm _ _ _ hw hl
              exact L47 _ _ _ _ hm _ _ _ hw hl
        exact L37 _ _ _ _ hm _ _ _ hw hl
      · refine lv_aload_n hx hb d_B_critical_13 rfl (lv_at hl 1 rfl) ?_
        refine sg_get (D := (dC, dI)) (ci := 9) (v := .ref q_p0_way) (C := "JobNetsModel") (T := T_9) (N := 41) hx hb hts hin_9 hown hK hw 0 rfl rfl 37 (by decide) (hts _ wd_653) rfl rfl d_B_critical_14 ?_
        refine lv_iload_n hx hb d_B_critical_17 rfl (lv_at hl 0 rfl) ?_
        refine lv_ldc2 hx hb (v := -1) hown (hts _ wd_816) d_B_critical_18 ?_
        refine sg_last (S1 := fun f24 => [[(q_p0, .inr (9, [.int (0 : Int32), .ref q_p0_text, .int v_p0_length, .int v_p0_jobs, .int v_p0_newJobs, .ref q_p0_names, .ref q_p0_calendars, .ref q_p0_priorities, .ref q_p0_starts, .ref q_p0_estimates, .ref q_p0_many, .ref q_p0_newNames, .ref q_p0_numbers, .ref q_p0_newMany, .ref q_p0_needs, .ref q_p0_conditions, .ref q_p0_newNeeds, .ref q_p0_newConditions, .ref q_p0_needPlaces, .ref q_p0_rules, .ref q_p0_of, .int v_p0_made, .ref q_p0_holidays, .int v_p0_days, .ref q_p0_states, .ref q_p0_ran, .ref q_p0_sums, .ref q_p0_kept, .long v_p0_now, .ref q_p0_startedJob, .ref q_p0_startedAt, .int v_p0_started, .ref q_p0_ring, .ref q_p0_came, .ref q_p0_level, .int v_p0_ringSize, .ref q_p0_again, .ref q_p0_way, .ref q_p0_before, .ref q_p0_path, .int v_p0_place]))], [(q_p0_estimates, .inl (cI, 27, .inl f_p0_estimates))], [(q_p0_many, .inl (cI, 27, .inl f_p0_many))], [(q_p0_needs, .inl (cI, 540, .inl f_p0_needs))], [(q_p0_states, .inl (cI, 27, .inl f_p0_states))], [(q_p0_way, .inl (cL, 27, .inr (.inl f24)))], [(q_p0_before, .inl (cI, 27, .inl f3))], [(q_p0_path, .inl (cI, 27, .inl f_p0_path))]]) hx hb hK hw 5 1 rfl rfl d_B_critical_21 (fun _ => rfl) hm (fun f24 H locs hm hw => ?_)
        refine lv_aload_n hx hb d_B_critical_22 rfl (lv_at hl 1 rfl) ?_
        refine sg_get (D := (dC, dI)) (ci := 9) (v := .ref q_p0_before) (C := "JobNetsModel") (T := T_9) (N := 41) hx hb hts hin_9 hown hK hw 0 rfl rfl 38 (by decide) (hts _ wd_654) rfl rfl d_B_critical_23 ?_
        refine lv_iload_n hx hb d_B_critical_26 rfl (lv_at hl 0 rfl) ?_
        refine lv_iconst (v := 0) hx hb d_B_critical_27 (by decide) ?_
        refine sg_iast (S1 := fun f25 => [[(q_p0, .inr (9, [.int (0 : Int32), .ref q_p0_text, .int v_p0_length, .int v_p0_jobs, .int v_p0_newJobs, .ref q_p0_names, .ref q_p0_calendars, .ref q_p0_priorities, .ref q_p0_starts, .ref q_p0_estimates, .ref q_p0_many, .ref q_p0_newNames, .ref q_p0_numbers, .ref q_p0_newMany, .ref q_p0_needs, .ref q_p0_conditions, .ref q_p0_newNeeds, .ref q_p0_newConditions, .ref q_p0_needPlaces, .ref q_p0_rules, .ref q_p0_of, .int v_p0_made, .ref q_p0_holidays, .int v_p0_days, .ref q_p0_states, .ref q_p0_ran, .ref q_p0_sums, .ref q_p0_kept, .long v_p0_now, .ref q_p0_startedJob, .ref q_p0_startedAt, .int v_p0_started, .ref q_p0_ring, .ref q_p0_came, .ref q_p0_level, .int v_p0_ringSize, .ref q_p0_again, .ref q_p0_way, .ref q_p0_before, .ref q_p0_path, .int v_p0_place]))], [(q_p0_estimates, .inl (cI, 27, .inl f_p0_estimates))], [(q_p0_many, .inl (cI, 27, .inl f_p0_many))], [(q_p0_needs, .inl (cI, 540, .inl f_p0_needs))], [(q_p0_states, .inl (cI, 27, .inl f_p0_states))], [(q_p0_way, .inl (cL, 27, .inr (.inl f24)))], [(q_p0_before, .inl (cI, 27, .inl f25))], [(q_p0_path, .inl (cI, 27, .inl f_p0_path))]]) hx hb hK hw 6 0 rfl rfl d_B_critical_28 (fun _ => rfl) hm (fun f25 H locs hm hw => ?_)
        refine lv_iinc (v := x1 + 1) (lv' := [(2, .int (x1 + 1)), (0, .ref q_p0), (1, .int a1_x)]) hx hb d_B_critical_29 hl (k := 0) rfl rfl (by decide) rfl (fun ls hl => ?_)
        refine lv_goto (tgt := 7) hx hb d_B_critical_32 (by decide) ?_
        exact ih7 (x1 + 1) f24 f25 hm _ _ _ hw hl
  exact L7 _ _ _ _ hm _ _ _ hw hl
