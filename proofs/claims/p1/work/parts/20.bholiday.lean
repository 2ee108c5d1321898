theorem d_B_holiday_0 : decode prog_11_method_19_code 0 = .ok (.aload_n 0, 1) := by decide +kernel
theorem d_B_holiday_1 : decode prog_11_method_19_code 1 = .ok (.iconst 0, 1) := by decide +kernel
theorem d_B_holiday_2 : decode prog_11_method_19_code 2 = .ok (.putfield 105, 3) := by decide +kernel
theorem d_B_holiday_5 : decode prog_11_method_19_code 5 = .ok (.lload_n 1, 1) := by decide +kernel
theorem d_B_holiday_6 : decode prog_11_method_19_code 6 = .ok (.lconst 0, 1) := by decide +kernel
theorem d_B_holiday_7 : decode prog_11_method_19_code 7 = .ok (.lcmp, 1) := by decide +kernel
theorem d_B_holiday_8 : decode prog_11_method_19_code 8 = .ok (.ifCond .lt 11, 3) := by decide +kernel
theorem d_B_holiday_11 : decode prog_11_method_19_code 11 = .ok (.lload_n 1, 1) := by decide +kernel
theorem d_B_holiday_12 : decode prog_11_method_19_code 12 = .ok (.ldc2_w 176, 3) := by decide +kernel
theorem d_B_holiday_15 : decode prog_11_method_19_code 15 = .ok (.lcmp, 1) := by decide +kernel
theorem d_B_holiday_16 : decode prog_11_method_19_code 16 = .ok (.ifCond .le 5, 3) := by decide +kernel
theorem d_B_holiday_19 : decode prog_11_method_19_code 19 = .ok (.iconst (-1), 1) := by decide +kernel
theorem d_B_holiday_20 : decode prog_11_method_19_code 20 = .ok (.ireturn, 1) := by decide +kernel
theorem d_B_holiday_21 : decode prog_11_method_19_code 21 = .ok (.iconst 0, 1) := by decide +kernel
theorem d_B_holiday_22 : decode prog_11_method_19_code 22 = .ok (.istore_n 3, 1) := by decide +kernel
theorem d_B_holiday_23 : decode prog_11_method_19_code 23 = .ok (.iload_n 3, 1) := by decide +kernel
theorem d_B_holiday_24 : decode prog_11_method_19_code 24 = .ok (.aload_n 0, 1) := by decide +kernel
theorem d_B_holiday_25 : decode prog_11_method_19_code 25 = .ok (.getfield 178, 3) := by decide +kernel
theorem d_B_holiday_28 : decode prog_11_method_19_code 28 = .ok (.if_icmp .ge 53, 3) := by decide +kernel
theorem d_B_holiday_31 : decode prog_11_method_19_code 31 = .ok (.aload_n 0, 1) := by decide +kernel
theorem d_B_holiday_32 : decode prog_11_method_19_code 32 = .ok (.getfield 61, 3) := by decide +kernel
theorem d_B_holiday_35 : decode prog_11_method_19_code 35 = .ok (.iload_n 3, 1) := by decide +kernel
theorem d_B_holiday_36 : decode prog_11_method_19_code 36 = .ok (.laload, 1) := by decide +kernel
theorem d_B_holiday_37 : decode prog_11_method_19_code 37 = .ok (.lload_n 1, 1) := by decide +kernel
theorem d_B_holiday_38 : decode prog_11_method_19_code 38 = .ok (.lcmp, 1) := by decide +kernel
theorem d_B_holiday_39 : decode prog_11_method_19_code 39 = .ok (.ifCond .eq 6, 3) := by decide +kernel
theorem d_B_holiday_42 : decode prog_11_method_19_code 42 = .ok (.goto 33, 3) := by decide +kernel
theorem d_B_holiday_45 : decode prog_11_method_19_code 45 = .ok (.aload_n 0, 1) := by decide +kernel
theorem d_B_holiday_46 : decode prog_11_method_19_code 46 = .ok (.dup, 1) := by decide +kernel
theorem d_B_holiday_47 : decode prog_11_method_19_code 47 = .ok (.getfield 178, 3) := by decide +kernel
theorem d_B_holiday_50 : decode prog_11_method_19_code 50 = .ok (.iconst 1, 1) := by decide +kernel
theorem d_B_holiday_51 : decode prog_11_method_19_code 51 = .ok (.isub, 1) := by decide +kernel
theorem d_B_holiday_52 : decode prog_11_method_19_code 52 = .ok (.putfield 178, 3) := by decide +kernel
theorem d_B_holiday_55 : decode prog_11_method_19_code 55 = .ok (.aload_n 0, 1) := by decide +kernel
theorem d_B_holiday_56 : decode prog_11_method_19_code 56 = .ok (.getfield 61, 3) := by decide +kernel
theorem d_B_holiday_59 : decode prog_11_method_19_code 59 = .ok (.iload_n 3, 1) := by decide +kernel
theorem d_B_holiday_60 : decode prog_11_method_19_code 60 = .ok (.aload_n 0, 1) := by decide +kernel
theorem d_B_holiday_61 : decode prog_11_method_19_code 61 = .ok (.getfield 61, 3) := by decide +kernel
theorem d_B_holiday_64 : decode prog_11_method_19_code 64 = .ok (.aload_n 0, 1) := by decide +kernel
theorem d_B_holiday_65 : decode prog_11_method_19_code 65 = .ok (.getfield 178, 3) := by decide +kernel
theorem d_B_holiday_68 : decode prog_11_method_19_code 68 = .ok (.laload, 1) := by decide +kernel
theorem d_B_holiday_69 : decode prog_11_method_19_code 69 = .ok (.lastore, 1) := by decide +kernel
theorem d_B_holiday_70 : decode prog_11_method_19_code 70 = .ok (.aload_n 0, 1) := by decide +kernel
theorem d_B_holiday_71 : decode prog_11_method_19_code 71 = .ok (.getfield 178, 3) := by decide +kernel
theorem d_B_holiday_74 : decode prog_11_method_19_code 74 = .ok (.ireturn, 1) := by decide +kernel
theorem d_B_holiday_75 : decode prog_11_method_19_code 75 = .ok (.iinc 3 1, 3) := by decide +kernel
theorem d_B_holiday_78 : decode prog_11_method_19_code 78 = .ok (.goto (-55), 3) := by decide +kernel
theorem d_B_holiday_81 : decode prog_11_method_19_code 81 = .ok (.aload_n 0, 1) := by decide +kernel
theorem d_B_holiday_82 : decode prog_11_method_19_code 82 = .ok (.getfield 178, 3) := by decide +kernel
theorem d_B_holiday_85 : decode prog_11_method_19_code 85 = .ok (.bipush 100, 2) := by decide +kernel
theorem d_B_holiday_87 : decode prog_11_method_19_code 87 = .ok (.if_icmp .ne 5, 3) := by decide +kernel
theorem d_B_holiday_90 : decode prog_11_method_19_code 90 = .ok (.iconst (-1), 1) := by decide +kernel
theorem d_B_holiday_91 : decode prog_11_method_19_code 91 = .ok (.ireturn, 1) := by decide +kernel
theorem d_B_holiday_92 : decode prog_11_method_19_code 92 = .ok (.aload_n 0, 1) := by decide +kernel
theorem d_B_holiday_93 : decode prog_11_method_19_code 93 = .ok (.getfield 61, 3) := by decide +kernel
theorem d_B_holiday_96 : decode prog_11_method_19_code 96 = .ok (.aload_n 0, 1) := by decide +kernel
theorem d_B_holiday_97 : decode prog_11_method_19_code 97 = .ok (.getfield 178, 3) := by decide +kernel
theorem d_B_holiday_100 : decode prog_11_method_19_code 100 = .ok (.lload_n 1, 1) := by decide +kernel
theorem d_B_holiday_101 : decode prog_11_method_19_code 101 = .ok (.lastore, 1) := by decide +kernel
theorem d_B_holiday_102 : decode prog_11_method_19_code 102 = .ok (.aload_n 0, 1) := by decide +kernel
theorem d_B_holiday_103 : decode prog_11_method_19_code 103 = .ok (.dup, 1) := by decide +kernel
theorem d_B_holiday_104 : decode prog_11_method_19_code 104 = .ok (.getfield 178, 3) := by decide +kernel
theorem d_B_holiday_107 : decode prog_11_method_19_code 107 = .ok (.iconst 1, 1) := by decide +kernel
theorem d_B_holiday_108 : decode prog_11_method_19_code 108 = .ok (.iadd, 1) := by decide +kernel
theorem d_B_holiday_109 : decode prog_11_method_19_code 109 = .ok (.putfield 178, 3) := by decide +kernel
theorem d_B_holiday_112 : decode prog_11_method_19_code 112 = .ok (.aload_n 0, 1) := by decide +kernel
theorem d_B_holiday_113 : decode prog_11_method_19_code 113 = .ok (.getfield 178, 3) := by decide +kernel
theorem d_B_holiday_116 : decode prog_11_method_19_code 116 = .ok (.ireturn, 1) := by decide +kernel
def md_B_holiday_F23 (v_p0_days : Int32) (f_p0_holidays : Nat → Int64) (a1_x : Int64) (rec23 : Int32 → Option (Int32 × Int32 × Int32 × (Nat → Int64))) (x1 : Int32) : Option (Int32 × Int32 × Int32 × (Nat → Int64)) :=
  (if v_p0_days ≤ x1 then (if v_p0_days = (100 : Int32) then (some ((-1 : Int32), (0 : Int32), v_p0_days, f_p0_holidays)) else (if sg_in v_p0_days 100 = true then zl (vp_updL f_p0_holidays v_p0_days.toNatClampNeg a1_x) (fun f2 => (some (v_p0_days + (1 : Int32), (0 : Int32), v_p0_days + (1 : Int32), f2))) else none)) else (if sg_in x1 100 = true then (if (lg_cmp (f_p0_holidays x1.toNatClampNeg) a1_x) = 0 then (if sg_in (v_p0_days - (1 : Int32)) 100 = true then (if sg_in x1 100 = true then zl (vp_updL f_p0_holidays x1.toNatClampNeg (f_p0_holidays (v_p0_days - (1 : Int32)).toNatClampNeg)) (fun f3 => (some (v_p0_days - (1 : Int32), (0 : Int32), v_p0_days - (1 : Int32), f3))) else none) else none) else (rec23 (x1 + 1))) else none))
def md_B_holiday (N : Nat) (v_p0_code : Int32) (v_p0_days : Int32) (f_p0_holidays : Nat → Int64) (a1_x : Int64) : Option (Int32 × Int32 × Int32 × (Nat → Int64)) :=
  (if (lg_cmp a1_x (0 : Int64)) < 0 then (some ((-1 : Int32), (0 : Int32), v_p0_days, f_p0_holidays)) else (if (lg_cmp a1_x (1000000 : Int64)) ≤ 0 then (fx1 (md_B_holiday_F23 v_p0_days f_p0_holidays a1_x) N (0 : Int32)) else (some ((-1 : Int32), (0 : Int32), v_p0_days, f_p0_holidays))))
abbrev sc_B_holiday (cI cL cM cZ : ClassId) (q_p0 q_p0_text q_p0_names q_p0_calendars q_p0_priorities q_p0_starts q_p0_estimates q_p0_many q_p0_newNames q_p0_numbers q_p0_newMany q_p0_needs q_p0_conditions q_p0_newNeeds q_p0_newConditions q_p0_needPlaces q_p0_rules q_p0_of q_p0_holidays q_p0_states q_p0_ran q_p0_sums q_p0_kept q_p0_startedJob q_p0_startedAt q_p0_ring q_p0_came q_p0_level q_p0_again q_p0_way q_p0_before q_p0_path : Nat) (v_p0_code : Int32) (v_p0_length : Int32) (v_p0_jobs : Int32) (v_p0_newJobs : Int32) (v_p0_made : Int32) (v_p0_days : Int32) (v_p0_now : Int64) (v_p0_started : Int32) (v_p0_ringSize : Int32) (v_p0_place : Int32) (f_p0_holidays : Nat → Int64) : List va_W := [[(q_p0, .inr (9, [.int v_p0_code, .ref q_p0_text, .int v_p0_length, .int v_p0_jobs, .int v_p0_newJobs, .ref q_p0_names, .ref q_p0_calendars, .ref q_p0_priorities, .ref q_p0_starts, .ref q_p0_estimates, .ref q_p0_many, .ref q_p0_newNames, .ref q_p0_numbers, .ref q_p0_newMany, .ref q_p0_needs, .ref q_p0_conditions, .ref q_p0_newNeeds, .ref q_p0_newConditions, .ref q_p0_needPlaces, .ref q_p0_rules, .ref q_p0_of, .int v_p0_made, .ref q_p0_holidays, .int v_p0_days, .ref q_p0_states, .ref q_p0_ran, .ref q_p0_sums, .ref q_p0_kept, .long v_p0_now, .ref q_p0_startedJob, .ref q_p0_startedAt, .int v_p0_started, .ref q_p0_ring, .ref q_p0_came, .ref q_p0_level, .int v_p0_ringSize, .ref q_p0_again, .ref q_p0_way, .ref q_p0_before, .ref q_p0_path, .int v_p0_place]))], [(q_p0_holidays, .inl (cL, 100, .inr (.inl f_p0_holidays)))]]
abbrev rm_B_holiday : Room := { frames := 0, cells := 0, slots := 0, locals := 0 }
set_option maxHeartbeats 4000000 in
set_option maxRecDepth 100000 in
theorem ct_B_holiday (l : Launch) (dC : Nat → ClassId) (dI : Nat → Nat → Nat) (cI cL cM cZ : ClassId) (q_p0 q_p0_text q_p0_names q_p0_calendars q_p0_priorities q_p0_starts q_p0_estimates q_p0_many q_p0_newNames q_p0_numbers q_p0_newMany q_p0_needs q_p0_conditions q_p0_newNeeds q_p0_newConditions q_p0_needPlaces q_p0_rules q_p0_of q_p0_holidays q_p0_states q_p0_ran q_p0_sums q_p0_kept q_p0_startedJob q_p0_startedAt q_p0_ring q_p0_came q_p0_level q_p0_again q_p0_way q_p0_before q_p0_path : Nat) (v_p0_code : Int32) (v_p0_length : Int32) (v_p0_jobs : Int32) (v_p0_newJobs : Int32) (v_p0_made : Int32) (v_p0_days : Int32) (v_p0_now : Int64) (v_p0_started : Int32) (v_p0_ringSize : Int32) (v_p0_place : Int32) (f_p0_holidays : Nat → Int64) (a1_x : Int64) (N : Nat) (o : Int32 × Int32 × Int32 × (Nat → Int64)) (hm : md_B_holiday N v_p0_code v_p0_days f_p0_holidays a1_x = some o) : ∀ sz : Nat, Met l y_B_holiday ws_B_holiday rm_B_holiday (cP (dC, dI) vwCl [(cI, .int), (cL, .long), (cM, .array .int), (cZ, .boolean)] [.ref q_p0, .long a1_x] sz (sc_B_holiday cI cL cM cZ q_p0 q_p0_text q_p0_names q_p0_calendars q_p0_priorities q_p0_starts q_p0_estimates q_p0_many q_p0_newNames q_p0_numbers q_p0_newMany q_p0_needs q_p0_conditions q_p0_newNeeds q_p0_newConditions q_p0_needPlaces q_p0_rules q_p0_of q_p0_holidays q_p0_states q_p0_ran q_p0_sums q_p0_kept q_p0_startedJob q_p0_startedAt q_p0_ring q_p0_came q_p0_level q_p0_again q_p0_way q_p0_before q_p0_path v_p0_code v_p0_length v_p0_jobs v_p0_newJobs v_p0_made v_p0_days v_p0_now v_p0_started v_p0_ringSize v_p0_place f_p0_holidays)) (cQi (dC, dI) vwCl [(cI, .int), (cL, .long), (cM, .array .int), (cZ, .boolean)] sz (sc_B_holiday cI cL cM cZ q_p0 q_p0_text q_p0_names q_p0_calendars q_p0_priorities q_p0_starts q_p0_estimates q_p0_many q_p0_newNames q_p0_numbers q_p0_newMany q_p0_needs q_p0_conditions q_p0_newNeeds q_p0_newConditions q_p0_needPlaces q_p0_rules q_p0_of q_p0_holidays q_p0_states q_p0_ran q_p0_sums q_p0_kept q_p0_startedJob q_p0_startedAt q_p0_ring q_p0_came q_p0_level q_p0_again q_p0_way q_p0_before q_p0_path v_p0_code v_p0_length v_p0_jobs v_p0_newJobs v_p0_made v_p0_days v_p0_now v_p0_started v_p0_ringSize v_p0_place f_p0_holidays) o.1 (sc_B_holiday cI cL cM cZ q_p0 q_p0_text q_p0_names q_p0_calendars q_p0_priorities q_p0_starts q_p0_estimates q_p0_many q_p0_newNames q_p0_numbers q_p0_newMany q_p0_needs q_p0_conditions q_p0_newNeeds q_p0_newConditions q_p0_needPlaces q_p0_rules q_p0_of q_p0_holidays q_p0_states q_p0_ran q_p0_sums q_p0_kept q_p0_startedJob q_p0_startedAt q_p0_ring q_p0_came q_p0_level q_p0_again q_p0_way q_p0_before q_p0_path o.2.1 v_p0_length v_p0_jobs v_p0_newJobs v_p0_made o.2.2.1 v_p0_now v_p0_started v_p0_ringSize v_p0_place o.2.2.2)) 0 0 (va_A ((sc_B_holiday cI cL cM cZ q_p0 q_p0_text q_p0_names q_p0_calendars q_p0_priorities q_p0_starts q_p0_estimates q_p0_many q_p0_newNames q_p0_numbers q_p0_newMany q_p0_needs q_p0_conditions q_p0_newNeeds q_p0_newConditions q_p0_needPlaces q_p0_rules q_p0_of q_p0_holidays q_p0_states q_p0_ran q_p0_sums q_p0_kept q_p0_startedJob q_p0_startedAt q_p0_ring q_p0_came q_p0_level q_p0_again q_p0_way q_p0_before q_p0_path v_p0_code v_p0_length v_p0_jobs v_p0_newJobs v_p0_made v_p0_days v_p0_now v_p0_started v_p0_ringSize v_p0_place f_p0_holidays)).flatten sz) := by
  refine sg_met (fun sz => cQi (dC, dI) vwCl [(cI, .int), (cL, .long), (cM, .array .int), (cZ, .boolean)] sz (sc_B_holiday cI cL cM cZ q_p0 q_p0_text q_p0_names q_p0_calendars q_p0_priorities q_p0_starts q_p0_estimates q_p0_many q_p0_newNames q_p0_numbers q_p0_newMany q_p0_needs q_p0_conditions q_p0_newNeeds q_p0_newConditions q_p0_needPlaces q_p0_rules q_p0_of q_p0_holidays q_p0_states q_p0_ran q_p0_sums q_p0_kept q_p0_startedJob q_p0_startedAt q_p0_ring q_p0_came q_p0_level q_p0_again q_p0_way q_p0_before q_p0_path v_p0_code v_p0_length v_p0_jobs v_p0_newJobs v_p0_made v_p0_days v_p0_now v_p0_started v_p0_ringSize v_p0_place f_p0_holidays) o.1 (sc_B_holiday cI cL cM cZ q_p0 q_p0_text q_p0_names q_p0_calendars q_p0_priorities q_p0_starts q_p0_estimates q_p0_many q_p0_newNames q_p0_numbers q_p0_newMany q_p0_needs q_p0_conditions q_p0_newNeeds q_p0_newConditions q_p0_needPlaces q_p0_rules q_p0_of q_p0_holidays q_p0_states q_p0_ran q_p0_sums q_p0_kept q_p0_startedJob q_p0_startedAt q_p0_ring q_p0_came q_p0_level q_p0_again q_p0_way q_p0_before q_p0_path o.2.1 v_p0_length v_p0_jobs v_p0_newJobs v_p0_made o.2.2.1 v_p0_now v_p0_started v_p0_ringSize v_p0_place o.2.2.2)) (by decide) (Nat.le_of_ble_eq_true rfl) ?_
  intro p e s m args below meth c A Q ls hx hb hr hts hown hlocks hml hname hK hNW hA hAe hQ hw hl
  have hl : lv_has ls 4 [(0, .ref q_p0), (1, .long a1_x)] := hl
  have hw : wk (dC, dI) vwCl A s.heap [[(q_p0, .inr (9, [.int v_p0_code, .ref q_p0_text, .int v_p0_length, .int v_p0_jobs, .int v_p0_newJobs, .ref q_p0_names, .ref q_p0_calendars, .ref q_p0_priorities, .ref q_p0_starts, .ref q_p0_estimates, .ref q_p0_many, .ref q_p0_newNames, .ref q_p0_numbers, .ref q_p0_newMany, .ref q_p0_needs, .ref q_p0_conditions, .ref q_p0_newNeeds, .ref q_p0_newConditions, .ref q_p0_needPlaces, .ref q_p0_rules, .ref q_p0_of, .int v_p0_made, .ref q_p0_holidays, .int v_p0_days, .ref q_p0_states, .ref q_p0_ran, .ref q_p0_sums, .ref q_p0_kept, .long v_p0_now, .ref q_p0_startedJob, .ref q_p0_startedAt, .int v_p0_started, .ref q_p0_ring, .ref q_p0_came, .ref q_p0_level, .int v_p0_ringSize, .ref q_p0_again, .ref q_p0_way, .ref q_p0_before, .ref q_p0_path, .int v_p0_place]))], [(q_p0_holidays, .inl (cL, 100, .inr (.inl f_p0_holidays)))]] s.heap [] := hw
  unfold md_B_holiday at hm
  refine lv_aload_n hx hb d_B_holiday_0 rfl (lv_at hl 0 rfl) ?_
  refine lv_iconst (v := 0) hx hb d_B_holiday_1 (by decide) ?_
  refine sg_put (D := (dC, dI)) (ci := 9) (v := .int (0 : Int32)) (ty := .int) (C := "JobNetsModel") (T := T_9) (N := 41) (S1 := [[(q_p0, .inr (9, [.int (0 : Int32), .ref q_p0_text, .int v_p0_length, .int v_p0_jobs, .int v_p0_newJobs, .ref q_p0_names, .ref q_p0_calendars, .ref q_p0_priorities, .ref q_p0_starts, .ref q_p0_estimates, .ref q_p0_many, .ref q_p0_newNames, .ref q_p0_numbers, .ref q_p0_newMany, .ref q_p0_needs, .ref q_p0_conditions, .ref q_p0_newNeeds, .ref q_p0_newConditions, .ref q_p0_needPlaces, .ref q_p0_rules, .ref q_p0_of, .int v_p0_made, .ref q_p0_holidays, .int v_p0_days, .ref q_p0_states, .ref q_p0_ran, .ref q_p0_sums, .ref q_p0_kept, .long v_p0_now, .ref q_p0_startedJob, .ref q_p0_startedAt, .int v_p0_started, .ref q_p0_ring, .ref q_p0_came, .ref q_p0_level, .int v_p0_ringSize, .ref q_p0_again, .ref q_p0_way, .ref q_p0_before, .ref q_p0_path, .int v_p0_place]))], [(q_p0_holidays, .inl (cL, 100, .inr (.inl f_p0_holidays)))]]) hx hb hts hin_9 ty_9 tok_9 nd_9 hown hK hw 0 rfl rfl 0 (by decide) (hts _ wd_616) rfl rfl (by decide +kernel) rfl rfl (Nat.le_of_ble_eq_true rfl) rfl d_B_holiday_2 (fun H locs hw => ?_)
  refine lv_lload_n hx hb d_B_holiday_5 rfl (lv_at hl 1 rfl) ?_
  refine lv_lconst (v := 0) hx hb d_B_holiday_6 (by decide) ?_
  refine W.lcmp hx hb d_B_holiday_7 ?_
  refine bq_t (lv_if_lt (tgt := 19) hx hb d_B_holiday_8 (by decide)) hm (fun hm => ?_) (fun hm => ?_)
  · refine lv_iconst (v := -1) hx hb d_B_holiday_19 (by decide) ?_
    exact so_iret (rf := fun z_ => z_.1) (Sf := fun z_ => sc_B_holiday cI cL cM cZ q_p0 q_p0_text q_p0_names q_p0_calendars q_p0_priorities q_p0_starts q_p0_estimates q_p0_many q_p0_newNames q_p0_numbers q_p0_newMany q_p0_needs q_p0_conditions q_p0_newNeeds q_p0_newConditions q_p0_needPlaces q_p0_rules q_p0_of q_p0_holidays q_p0_states q_p0_ran q_p0_sums q_p0_kept q_p0_startedJob q_p0_startedAt q_p0_ring q_p0_came q_p0_level q_p0_again q_p0_way q_p0_before q_p0_path z_.2.1 v_p0_length v_p0_jobs v_p0_newJobs v_p0_made z_.2.2.1 v_p0_now v_p0_started v_p0_ringSize v_p0_place z_.2.2.2) hm hx hb hr hlocks hAe hQ hK hw rfl d_B_holiday_20
  · refine lv_lload_n hx hb d_B_holiday_11 rfl (lv_at hl 1 rfl) ?_
    refine lv_ldc2 hx hb (v := 1000000) hown (hts _ wd_811) d_B_holiday_12 ?_
    refine W.lcmp hx hb d_B_holiday_15 ?_
    refine bq_t (lv_if_le (tgt := 21) hx hb d_B_holiday_16 (by decide)) hm (fun hm => ?_) (fun hm => ?_)
    · refine lv_iconst (v := 0) hx hb d_B_holiday_21 (by decide) ?_
      refine lv_istore_n (lv' := [(3, .int (0 : Int32)), (0, .ref q_p0), (1, .long a1_x)]) hx hb d_B_holiday_22 rfl hl (by decide) rfl (fun ls hl => ?_)
      obtain ⟨Fn23, hFn23, hm⟩ := fx1_x hm
      have L23 : ∀ (n : Nat) (x1 : Int32), fx1 Fn23 n x1 = some o → ∀ (H : Heap) (locs : List Loc) (ls : Array Slot), wk (dC, dI) vwCl A s.heap [[(q_p0, .inr (9, [.int (0 : Int32), .ref q_p0_text, .int v_p0_length, .int v_p0_jobs, .int v_p0_newJobs, .ref q_p0_names, .ref q_p0_calendars, .ref q_p0_priorities, .ref q_p0_starts, .ref q_p0_estimates, .ref q_p0_many, .ref q_p0_newNames, .ref q_p0_numbers, .ref q_p0_newMany, .ref q_p0_needs, .ref q_p0_conditions, .ref q_p0_newNeeds, .ref q_p0_newConditions, .ref q_p0_needPlaces, .ref q_p0_rules, .ref q_p0_of, .int v_p0_made, .ref q_p0_holidays, .int v_p0_days, .ref q_p0_states, .ref q_p0_ran, .ref q_p0_sums, .ref q_p0_kept, .long v_p0_now, .ref q_p0_startedJob, .ref q_p0_startedAt, .int v_p0_started, .ref q_p0_ring, .ref q_p0_came, .ref q_p0_level, .int v_p0_ringSize, .ref q_p0_again, .ref q_p0_way, .ref q_p0_before, .ref q_p0_path, .int v_p0_place]))], [(q_p0_holidays, .inl (cL, 100, .inr (.inl f_p0_holidays)))]] H locs → lv_has ls 4 [(3, .int x1), (0, .ref q_p0), (1, .long a1_x)] → W p l e rm_B_holiday s m args below meth c H locs 0 0 Q (F0 m 23 ls []) := by
        intro n
        induction n with
        | zero => intro x1 hm; exact (fx1_0 hm).elim
        | succ n ih23 =>
          intro x1 hm H locs ls hw hl
          have hm := fx1_s hFn23 hm
          unfold md_B_holiday_F23 at hm
          refine lv_iload_n hx hb d_B_holiday_23 rfl (lv_at hl 0 rfl) ?_
          refine lv_aload_n hx hb d_B_holiday_24 rfl (lv_at hl 1 rfl) ?_
          refine sg_get (D := (dC, dI)) (ci := 9) (v := .int v_p0_days) (C := "JobNetsModel") (T := T_9) (N := 41) hx hb hts hin_9 hown hK hw 0 rfl rfl 23 (by decide) (hts _ wd_639) rfl rfl d_B_holiday_25 ?_
          refine bq_t (lv_icmp_ge (tgt := 81) hx hb d_B_holiday_28 (by decide)) hm (fun hm => ?_) (fun hm => ?_)
          · refine lv_aload_n hx hb d_B_holiday_81 rfl (lv_at hl 1 rfl) ?_
            refine sg_get (D := (dC, dI)) (ci := 9) (v := .int v_p0_days) (C := "JobNetsModel") (T := T_9) (N := 41) hx hb hts hin_9 hown hK hw 0 rfl rfl 23 (by decide) (hts _ wd_639) rfl rfl d_B_holiday_82 ?_
            refine lv_bipush (v := 100) hx hb d_B_holiday_85 (by decide) ?_
            refine bq_n (lv_icmp_ne (tgt := 92) hx hb d_B_holiday_87 (by decide)) hm (fun hm => ?_) (fun hm => ?_)
            · refine lv_aload_n hx hb d_B_holiday_92 rfl (lv_at hl 1 rfl) ?_
              refine sg_get (D := (dC, dI)) (ci := 9) (v := .ref q_p0_holidays) (C := "JobNetsModel") (T := T_9) (N := 41) hx hb hts hin_9 hown hK hw 0 rfl rfl 22 (by decide) (hts _ wd_638) rfl rfl d_B_holiday_93 ?_
              refine lv_aload_n hx hb d_B_holiday_96 rfl (lv_at hl 1 rfl) ?_
              refine sg_get (D := (dC, dI)) (ci := 9) (v := .int v_p0_days) (C := "JobNetsModel") (T := T_9) (N := 41) hx hb hts hin_9 hown hK hw 0 rfl rfl 23 (by decide) (hts _ wd_639) rfl rfl d_B_holiday_97 ?_
              refine lv_lload_n hx hb d_B_holiday_100 rfl (lv_at hl 2 rfl) ?_
              refine sg_last (S1 := fun f2 => [[(q_p0, .inr (9, [.int (0 : Int32), .ref q_p0_text, .int v_p0_length, .int v_p0_jobs, .int v_p0_newJobs, .ref q_p0_names, .ref q_p0_calendars, .ref q_p0_priorities, .ref q_p0_starts, .ref q_p0_estimates, .ref q_p0_many, .ref q_p0_newNames, .ref q_p0_numbers, .ref q_p0_newMany, .ref q_p0_needs, .ref q_p0_conditions, .ref q_p0_newNeeds, .ref q_p0_newConditions, .ref q_p0_needPlaces, .ref q_p0_rules, .ref q_p0_of, .int v_p0_made, .ref q_p0_holidays, .int v_p0_days, .ref q_p0_states, .ref q_p0_ran, .ref q_p0_sums, .ref q_p0_kept, .long v_p0_now, .ref q_p0_startedJob, .ref q_p0_startedAt, .int v_p0_started, .ref q_p0_ring, .ref q_p0_came, .ref q_p0_level, .int v_p0_ringSize, .ref q_p0_again, .ref q_p0_way, .ref q_p0_before, .ref q_p0_path, .int v_p0_place]))], [(q_p0_holidays, .inl (cL, 100, .inr (.inl f2)))]]) hx hb hK hw 1 1 rfl rfl d_B_holiday_101 (fun _ => rfl) hm (fun f2 H locs hm hw => ?_)
              refine lv_aload_n hx hb d_B_holiday_102 rfl (lv_at hl 1 rfl) ?_
              refine lv_dup hx hb d_B_holiday_103 rfl ?_
              refine sg_get (D := (dC, dI)) (ci := 9) (v := .int v_p0_days) (C := "JobNetsModel") (T := T_9) (N := 41) hx hb hts hin_9 hown hK hw 0 rfl rfl 23 (by decide) (hts _ wd_639) rfl rfl d_B_holiday_104 ?_
              refine lv_iconst (v := 1) hx hb d_B_holiday_107 (by decide) ?_
              refine lv_iadd hx hb d_B_holiday_108 ?_
              refine sg_put (D := (dC, dI)) (ci := 9) (v := .int (v_p0_days + (1 : Int32))) (ty := .int) (C := "JobNetsModel") (T := T_9) (N := 41) (S1 := [[(q_p0, .inr (9, [.int (0 : Int32), .ref q_p0_text, .int v_p0_length, .int v_p0_jobs, .int v_p0_newJobs, .ref q_p0_names, .ref q_p0_calendars, .ref q_p0_priorities, .ref q_p0_starts, .ref q_p0_estimates, .ref q_p0_many, .ref q_p0_newNames, .ref q_p0_numbers, .ref q_p0_newMany, .ref q_p0_needs, .ref q_p0_conditions, .ref q_p0_newNeeds, .ref q_p0_newConditions, .ref q_p0_needPlaces, .ref q_p0_rules, .ref q_p0_of, .int v_p0_made, .ref q_p0_holidays, .int (v_p0_days + (1 : Int32)), .ref q_p0_states, .ref q_p0_ran, .ref q_p0_sums, .ref q_p0_kept, .long v_p0_now, .ref q_p0_startedJob, .ref q_p0_startedAt, .int v_p0_started, .ref q_p0_ring, .ref q_p0_came, .ref q_p0_level, .int v_p0_ringSize, .ref q_p0_again, .ref q_p0_way, .ref q_p0_before, .ref q_p0_path, .int v_p0_place]))], [(q_p0_holidays, .inl (cL, 100, .inr (.inl f2)))]]) hx hb hts hin_9 ty_9 tok_9 nd_9 hown hK hw 0 rfl rfl 23 (by decide) (hts _ wd_639) rfl rfl (by decide +kernel) rfl rfl (Nat.le_of_ble_eq_true rfl) rfl d_B_holiday_109 (fun H locs hw => ?_)
              refine lv_aload_n hx hb d_B_holiday_112 rfl (lv_at hl 1 rfl) ?_
              refine sg_get (D := (dC, dI)) (ci := 9) (v := .int (v_p0_days + (1 : Int32))) (C := "JobNetsModel") (T := T_9) (N := 41) hx hb hts hin_9 hown hK hw 0 rfl rfl 23 (by decide) (hts _ wd_639) rfl rfl d_B_holiday_113 ?_
              exact so_iret (rf := fun z_ => z_.1) (Sf := fun z_ => sc_B_holiday cI cL cM cZ q_p0 q_p0_text q_p0_names q_p0_calendars q_p0_priorities q_p0_starts q_p0_estimates q_p0_many q_p0_newNames q_p0_numbers q_p0_newMany q_p0_needs q_p0_conditions q_p0_newNeeds q_p0_newConditions q_p0_needPlaces q_p0_rules q_p0_of q_p0_holidays q_p0_states q_p0_ran q_p0_sums q_p0_kept q_p0_startedJob q_p0_startedAt q_p0_ring q_p0_came q_p0_level q_p0_again q_p0_way q_p0_before q_p0_path z_.2.1 v_p0_length v_p0_jobs v_p0_newJobs v_p0_made z_.2.2.1 v_p0_now v_p0_started v_p0_ringSize v_p0_place z_.2.2.2) hm hx hb hr hlocks hAe hQ hK hw rfl d_B_holiday_116
            · refine lv_iconst (v := -1) hx hb d_B_holiday_90 (by decide) ?_
              exact so_iret (rf := fun z_ => z_.1) (Sf := fun z_ => sc_B_holiday cI cL cM cZ q_p0 q_p0_text q_p0_names q_p0_calendars q_p0_priorities q_p0_starts q_p0_estimates q_p0_many q_p0_newNames q_p0_numbers q_p0_newMany q_p0_needs q_p0_conditions q_p0_newNeeds q_p0_newConditions q_p0_needPlaces q_p0_rules q_p0_of q_p0_holidays q_p0_states q_p0_ran q_p0_sums q_p0_kept q_p0_startedJob q_p0_startedAt q_p0_ring q_p0_came q_p0_level q_p0_again q_p0_way q_p0_before q_p0_path z_.2.1 v_p0_length v_p0_jobs v_p0_newJobs v_p0_made z_.2.2.1 v_p0_now v_p0_started v_p0_ringSize v_p0_place z_.2.2.2) hm hx hb hr hlocks hAe hQ hK hw rfl d_B_holiday_91
          · refine lv_aload_n hx hb d_B_holiday_31 rfl (lv_at hl 1 rfl) ?_
            refine sg_get (D := (dC, dI)) (ci := 9) (v := .ref q_p0_holidays) (C := "JobNetsModel") (T := T_9) (N := 41) hx hb hts hin_9 hown hK hw 0 rfl rfl 22 (by decide) (hts _ wd_638) rfl rfl d_B_holiday_32 ?_
            refine lv_iload_n hx hb d_B_holiday_35 rfl (lv_at hl 0 rfl) ?_
            refine sg_lald hx hb hK hw 1 1 rfl rfl d_B_holiday_36 hm (fun hm => ?_)
            refine lv_lload_n hx hb d_B_holiday_37 rfl (lv_at hl 2 rfl) ?_
            refine W.lcmp hx hb d_B_holiday_38 ?_
            refine bq_t (lv_if_eq (tgt := 45) hx hb d_B_holiday_39 (by decide)) hm (fun hm => ?_) (fun hm => ?_)
            · refine lv_aload_n hx hb d_B_holiday_45 rfl (lv_at hl 1 rfl) ?_
              refine lv_dup hx hb d_B_holiday_46 rfl ?_
              refine sg_get (D := (dC, dI)) (ci := 9) (v := .int v_p0_days) (C := "JobNetsModel") (T := T_9) (N := 41) hx hb hts hin_9 hown hK hw 0 rfl rfl 23 (by decide) (hts _ wd_639) rfl rfl d_B_holiday_47 ?_
              refine lv_iconst (v := 1) hx hb d_B_holiday_50 (by decide) ?_
              refine lv_isub hx hb d_B_holiday_51 ?_
              refine sg_put (D := (dC, dI)) (ci := 9) (v := .int (v_p0_days - (1 : Int32))) (ty := .int) (C := "JobNetsModel") (T := T_9) (N := 41) (S1 := [[(q_p0, .inr (9, [.int (0 : Int32), .ref q_p0_text, .int v_p0_length, .int v_p0_jobs, .int v_p0_newJobs, .ref q_p0_names, .ref q_p0_calendars, .ref q_p0_priorities, .ref q_p0_starts, .ref q_p0_estimates, .ref q_p0_many, .ref q_p0_newNames, .ref q_p0_numbers, .ref q_p0_newMany, .ref q_p0_needs, .ref q_p0_conditions, .ref q_p0_newNeeds, .ref q_p0_newConditions, .ref q_p0_needPlaces, .ref q_p0_rules, .ref q_p0_of, .int v_p0_made, .ref q_p0_holidays, .int (v_p0_days - (1 : Int32)), .ref q_p0_states, .ref q_p0_ran, .ref q_p0_sums, .ref q_p0_kept, .long v_p0_now, .ref q_p0_startedJob, .ref q_p0_startedAt, .int v_p0_started, .ref q_p0_ring, .ref q_p0_came, .ref q_p0_level, .int v_p0_ringSize, .ref q_p0_again, .ref q_p0_way, .ref q_p0_before, .ref q_p0_path, .int v_p0_place]))], [(q_p0_holidays, .inl (cL, 100, .inr (.inl f_p0_holidays)))]]) hx hb hts hin_9 ty_9 tok_9 nd_9 hown hK hw 0 rfl rfl 23 (by decide) (hts _ wd_639) rfl rfl (by decide +kernel) rfl rfl (Nat.le_of_ble_eq_true rfl) rfl d_B_holiday_52 (fun H locs hw => ?_)
              refine lv_aload_n hx hb d_B_holiday_55 rfl (lv_at hl 1 rfl) ?_
              refine sg_get (D := (dC, dI)) (ci := 9) (v := .ref q_p0_holidays) (C := "JobNetsModel") (T := T_9) (N := 41) hx hb hts hin_9 hown hK hw 0 rfl rfl 22 (by decide) (hts _ wd_638) rfl rfl d_B_holiday_56 ?_
              refine lv_iload_n hx hb d_B_holiday_59 rfl (lv_at hl 0 rfl) ?_
              refine lv_aload_n hx hb d_B_holiday_60 rfl (lv_at hl 1 rfl) ?_
              refine sg_get (D := (dC, dI)) (ci := 9) (v := .ref q_p0_holidays) (C := "JobNetsModel") (T := T_9) (N := 41) hx hb hts hin_9 hown hK hw 0 rfl rfl 22 (by decide) (hts _ wd_638) rfl rfl d_B_holiday_61 ?_
              refine lv_aload_n hx hb d_B_holiday_64 rfl (lv_at hl 1 rfl) ?_
              refine sg_get (D := (dC, dI)) (ci := 9) (v := .int (v_p0_days - (1 : Int32))) (C := "JobNetsModel") (T := T_9) (N := 41) hx hb hts hin_9 hown hK hw 0 rfl rfl 23 (by decide) (hts _ wd_639) rfl rfl d_B_holiday_65 ?_
              refine sg_lald hx hb hK hw 1 1 rfl rfl d_B_holiday_68 hm (fun hm => ?_)
              refine sg_last (S1 := fun f3 => [[(q_p0, .inr (9, [.int (0 : Int32), .ref q_p0_text, .int v_p0_length, .int v_p0_jobs, .int v_p0_newJobs, .ref q_p0_names, .ref q_p0_calendars, .ref q_p0_priorities, .ref q_p0_starts, .ref q_p0_estimates, .ref q_p0_many, .ref q_p0_newNames, .ref q_p0_numbers, .ref q_p0_newMany, .ref q_p0_needs, .ref q_p0_conditions, .ref q_p0_newNeeds, .ref q_p0_newConditions, .ref q_p0_needPlaces, .ref q_p0_rules, .ref q_p0_of, .int v_p0_made, .ref q_p0_holidays, .int (v_p0_days - (1 : Int32)), .ref q_p0_states, .ref q_p0_ran, .ref q_p0_sums, .ref q_p0_kept, .long v_p0_now, .ref q_p0_startedJob, .ref q_p0_startedAt, .int v_p0_started, .ref q_p0_ring, .ref q_p0_came, .ref q_p0_level, .int v_p0_ringSize, .ref q_p0_again, .ref q_p0_way, .ref q_p0_before, .ref q_p0_path, .int v_p0_place]))], [(q_p0_holidays, .inl (cL, 100, .inr (.inl f3)))]]) hx hb hK hw 1 1 rfl rfl d_B_holiday_69 (fun _ => rfl) hm (fun f3 H locs hm hw => ?_)
              refine lv_aload_n hx hb d_B_holiday_70 rfl (lv_at hl 1 rfl) ?_
              refine sg_get (D := (dC, dI)) (ci := 9) (v := .int (v_p0_days - (1 : Int32))) (C := "JobNetsModel") (T := T_9) (N := 41) hx hb hts hin_9 hown hK hw 0 rfl rfl 23 (by decide) (hts _ wd_639) rfl rfl d_B_holiday_71 ?_
              exact so_iret (rf := fun z_ => z_.1) (Sf := fun z_ => sc_B_holiday cI cL cM cZ q_p0 q_p0_text q_p0_names q_p0_calendars q_p0_priorities q_p0_starts q_p0_estimates q_p0_many q_p0_newNames q_p0_numbers q_p0_newMany q_p0_needs q_p0_conditions q_p0_newNeeds q_p0_newConditions q_p0_needPlaces q_p0_rules q_p0_of q_p0_holidays q_p0_states q_p0_ran q_p0_sums q_p0_kept q_p0_startedJob q_p0_startedAt q_p0_ring q_p0_came q_p0_level q_p0_again q_p0_way q_p0_before q_p0_path z_.2.1 v_p0_length v_p0_jobs v_p0_newJobs v_p0_made z_.2.2.1 v_p0_now v_p0_started v_p0_ringSize v_p0_place z_.2.2.2) hm hx hb hr hlocks hAe hQ hK hw rfl d_B_holiday_74
            · refine lv_goto (tgt := 75) hx hb d_B_holiday_42 (by decide) ?_
              refine lv_iinc (v := x1 + 1) (lv' := [(3, .int (x1 + 1)), (0, .ref q_p0), (1, .long a1_x)]) hx hb d_B_holiday_75 hl (k := 0) rfl rfl (by decide) rfl (fun ls hl => ?_)
              refine lv_goto (tgt := 23) hx hb d_B_holiday_78 (by decide) ?_
              exact ih23 (x1 + 1) hm _ _ _ hw hl
      exact L23 _ _ hm _ _ _ hw hl
    · refine lv_iconst (v := -1) hx hb d_B_holiday_19 (by decide) ?_
      exact so_iret (rf := fun z_ => z_.1) (Sf := fun z_ => sc_B_holiday cI cL cM cZ q_p0 q_p0_text q_p0_names q_p0_calendars q_p0_priorities q_p0_starts q_p0_estimates q_p0_many q_p0_newNames q_p0_numbers q_p0_newMany q_p0_needs q_p0_conditions q_p0_newNeeds q_p0_newConditions q_p0_needPlaces q_p0_rules q_p0_of q_p0_holidays q_p0_states q_p0_ran q_p0_sums q_p0_kept q_p0_startedJob q_p0_startedAt q_p0_ring q_p0_came q_p0_level q_p0_again q_p0_way q_p0_before q_p0_path z_.2.1 v_p0_length v_p0_jobs v_p0_newJobs v_p0_made z_.2.2.1 v_p0_now v_p0_started v_p0_ringSize v_p0_place z_.2.2.2) hm hx hb hr hlocks hAe hQ hK hw rfl d_B_holiday_20
theorem d_B_isWork_0 : decode prog_11_method_20_code 0 = .ok (.lload_n 1, 1) := by decide +kernel
theorem d_B_isWork_1 : decode prog_11_method_20_code 1 = .ok (.ldc2_w 181, 3) := by decide +kernel
theorem d_B_isWork_4 : decode prog_11_method_20_code 4 = .ok (.lrem, 1) := by decide +kernel
theorem d_B_isWork_5 : decode prog_11_method_20_code 5 = .ok (.ldc2_w 183, 3) := by decide +kernel
theorem d_B_isWork_8 : decode prog_11_method_20_code 8 = .ok (.lcmp, 1) := by decide +kernel
theorem d_B_isWork_9 : decode prog_11_method_20_code 9 = .ok (.ifCond .le 7, 3) := by decide +kernel
theorem d_B_isWork_12 : decode prog_11_method_20_code 12 = .ok (.iconst 1, 1) := by decide +kernel
theorem d_B_isWork_13 : decode prog_11_method_20_code 13 = .ok (.goto 4, 3) := by decide +kernel
theorem d_B_isWork_16 : decode prog_11_method_20_code 16 = .ok (.iconst 0, 1) := by decide +kernel
theorem d_B_isWork_17 : decode prog_11_method_20_code 17 = .ok (.istore_n 3, 1) := by decide +kernel
theorem d_B_isWork_18 : decode prog_11_method_20_code 18 = .ok (.iconst 0, 1) := by decide +kernel
theorem d_B_isWork_19 : decode prog_11_method_20_code 19 = .ok (.istore 4, 2) := by decide +kernel
theorem d_B_isWork_21 : decode prog_11_method_20_code 21 = .ok (.iload 4, 2) := by decide +kernel
theorem d_B_isWork_23 : decode prog_11_method_20_code 23 = .ok (.aload_n 0, 1) := by decide +kernel
theorem d_B_isWork_24 : decode prog_11_method_20_code 24 = .ok (.getfield 178, 3) := by decide +kernel
theorem d_B_isWork_27 : decode prog_11_method_20_code 27 = .ok (.if_icmp .ge 31, 3) := by decide +kernel
theorem d_B_isWork_30 : decode prog_11_method_20_code 30 = .ok (.iload_n 3, 1) := by decide +kernel
theorem d_B_isWork_31 : decode prog_11_method_20_code 31 = .ok (.ifCond .ne 15, 3) := by decide +kernel
theorem d_B_isWork_34 : decode prog_11_method_20_code 34 = .ok (.aload_n 0, 1) := by decide +kernel
theorem d_B_isWork_35 : decode prog_11_method_20_code 35 = .ok (.getfield 61, 3) := by decide +kernel
theorem d_B_isWork_38 : decode prog_11_method_20_code 38 = .ok (.iload 4, 2) := by decide +kernel
theorem d_B_isWork_40 : decode prog_11_method_20_code 40 = .ok (.laload, 1) := by decide +kernel
theorem d_B_isWork_41 : decode prog_11_method_20_code 41 = .ok (.lload_n 1, 1) := by decide +kernel
theorem d_B_isWork_42 : decode prog_11_method_20_code 42 = .ok (.lcmp, 1) := by decide +kernel
theorem d_B_isWork_43 : decode prog_11_method_20_code 43 = .ok (.ifCond .ne 7, 3) := by decide +kernel
theorem d_B_isWork_46 : decode prog_11_method_20_code 46 = .ok (.iconst 1, 1) := by decide +kernel
theorem d_B_isWork_47 : decode prog_11_method_20_code 47 = .ok (.goto 4, 3) := by decide +kernel
theorem d_B_isWork_50 : decode prog_11_method_20_code 50 = .ok (.iconst 0, 1) := by decide +kernel
theorem d_B_isWork_51 : decode prog_11_method_20_code 51 = .ok (.istore_n 3, 1) := by decide +kernel
theorem d_B_isWork_52 : decode prog_11_method_20_code 52 = .ok (.iinc 4 1, 3) := by decide +kernel
theorem d_B_isWork_55 : decode prog_11_method_20_code 55 = .ok (.goto (-34), 3) := by decide +kernel
theorem d_B_isWork_58 : decode prog_11_method_20_code 58 = .ok (.iload_n 3, 1) := by decide +kernel
theorem d_B_isWork_59 : decode prog_11_method_20_code 59 = .ok (.ifCond .ne 7, 3) := by decide +kernel
theorem d_B_isWork_62 : decode prog_11_method_20_code 62 = .ok (.iconst 1, 1) := by decide +kernel
theorem d_B_isWork_63 : decode prog_11_method_20_code 63 = .ok (.goto 4, 3) := by decide +kernel
theorem d_B_isWork_66 : decode prog_11_method_20_code 66 = .ok (.iconst 0, 1) := by decide +kernel
theorem d_B_isWork_67 : decode prog_11_method_20_code 67 = .ok (.ireturn, 1) := by decide +kernel
def md_B_isWork_F21 (v_p0_days : Int32) (f_p0_holidays : Nat → Int64) (a1_x : Int64) (rec21 : Int32 → Int32 → Option (Int32)) (x2 : Int32) (x3 : Int32) : Option (Int32) :=
  (if v_p0_days ≤ x2 then (if x3 = 0 then (some (1 : Int32)) else (some (0 : Int32))) else (if x3 = 0 then (if sg_in x2 100 = true then (if (lg_cmp (f_p0_holidays x2.toNatClampNeg) a1_x) = 0 then (rec21 (x2 + 1) (1 : Int32)) else (rec21 (x2 + 1) (0 : Int32))) else none) else (rec21 (x2 + 1) (1 : Int32))))
def md_B_isWork (N : Nat) (v_p0_days : Int32) (f_p0_holidays : Nat → Int64) (a1_x : Int64) : Option (Int32) :=
  (zl (fun (x1 : Int32) => (fx2 (md_B_isWork_F21 v_p0_days f_p0_holidays a1_x) N (0 : Int32) x1)) (fun k17 => (if (lg_cmp (a1_x - a1_x / (7 : Int64) * (7 : Int64)) (4 : Int64)) ≤ 0 then (k17 (0 : Int32)) else (k17 (1 : Int32)))))
abbrev sc_B_isWork (cI cL cM cZ : ClassId) (q_p0 q_p0_text q_p0_names q_p0_calendars q_p0_priorities q_p0_starts q_p0_estimates q_p0_many q_p0_newNames q_p0_numbers q_p0_newMany q_p0_needs q_p0_conditions q_p0_newNeeds q_p0_newConditions q_p0_needPlaces q_p0_rules q_p0_of q_p0_holidays q_p0_states q_p0_ran q_p0_sums q_p0_kept q_p0_startedJob q_p0_startedAt q_p0_ring q_p0_came q_p0_level q_p0_again q_p0_way q_p0_before q_p0_path : Nat) (v_p0_code : Int32) (v_p0_length : Int32) (v_p0_jobs : Int32) (v_p0_newJobs : Int32) (v_p0_made : Int32) (v_p0_days : Int32) (v_p0_now : Int64) (v_p0_started : Int32) (v_p0_ringSize : Int32) (v_p0_place : Int32) (f_p0_holidays : Nat → Int64) : List va_W := [[(q_p0, .inr (9, [.int v_p0_code, .ref q_p0_text, .int v_p0_length, .int v_p0_jobs, .int v_p0_newJobs, .ref q_p0_names, .ref q_p0_calendars, .ref q_p0_priorities, .ref q_p0_starts, .ref q_p0_estimates, .ref q_p0_many, .ref q_p0_newNames, .ref q_p0_numbers, .ref q_p0_newMany, .ref q_p0_needs, .ref q_p0_conditions, .ref q_p0_newNeeds, .ref q_p0_newConditions, .ref q_p0_needPlaces, .ref q_p0_rules, .ref q_p0_of, .int v_p0_made, .ref q_p0_holidays, .int v_p0_days, .ref q_p0_states, .ref q_p0_ran, .ref q_p0_sums, .ref q_p0_kept, .long v_p0_now, .ref q_p0_startedJob, .ref q_p0_startedAt, .int v_p0_started, .ref q_p0_ring, .ref q_p0_came, .ref q_p0_level, .int v_p0_ringSize, .ref q_p0_again, .ref q_p0_way, .ref q_p0_before, .ref q_p0_path, .int v_p0_place]))], [(q_p0_holidays, .inl (cL, 100, .inr (.inl f_p0_holidays)))]]
abbrev rm_B_isWork : Room := { frames := 0, cells := 0, slots := 0, locals := 0 }
set_option maxHeartbeats 4000000 in
set_option maxRecDepth 100000 in
theorem ct_B_isWork (l : Launch) (dC : Nat → ClassId) (dI : Nat → Nat → Nat) (cI cL cM cZ : ClassId) (q_p0 q_p0_text q_p0_names q_p0_calendars q_p0_priorities q_p0_starts q_p0_estimates q_p0_many q_p0_newNames q_p0_numbers q_p0_newMany q_p0_needs q_p0_conditions q_p0_newNeeds q_p0_newConditions q_p0_needPlaces q_p0_rules q_p0_of q_p0_holidays q_p0_states q_p0_ran q_p0_sums q_p0_kept q_p0_startedJob q_p0_startedAt q_p0_ring q_p0_came q_p0_level q_p0_again q_p0_way q_p0_before q_p0_path : Nat) (v_p0_code : Int32) (v_p0_length : Int32) (v_p0_jobs : Int32) (v_p0_newJobs : Int32) (v_p0_made : Int32) (v_p0_days : Int32) (v_p0_now : Int64) (v_p0_started : Int32) (v_p0_ringSize : Int32) (v_p0_place : Int32) (f_p0_holidays : Nat → Int64) (a1_x : Int64) (N : Nat) (o : Int32) (hm : md_B_isWork N v_p0_days f_p0_holidays a1_x = some o) : ∀ sz : Nat, Met l y_B_isWork ws_B_isWork rm_B_isWork (cP (dC, dI) vwCl [(cI, .int), (cL, .long), (cM, .array .int), (cZ, .boolean)] [.ref q_p0, .long a1_x] sz (sc_B_isWork cI cL cM cZ q_p0 q_p0_text q_p0_names q_p0_calendars q_p0_priorities q_p0_starts q_p0_estimates q_p0_many q_p0_newNames q_p0_numbers q_p0_newMany q_p0_needs q_p0_conditions q_p0_newNeeds q_p0_newConditions q_p0_needPlaces q_p0_rules q_p0_of q_p0_holidays q_p0_states q_p0_ran q_p0_sums q_p0_kept q_p0_startedJob q_p0_startedAt q_p0_ring q_p0_came q_p0_level q_p0_again q_p0_way q_p0_before q_p0_path v_p0_code v_p0_length v_p0_jobs v_p0_newJobs v_p0_made v_p0_days v_p0_now v_p0_started v_p0_ringSize v_p0_place f_p0_holidays)) (cQi (dC, dI) vwCl [(cI, .int), (cL, .long), (cM, .array .int), (cZ, .boolean)] sz (sc_B_isWork cI cL cM cZ q_p0 q_p0_text q_p0_names q_p0_calendars q_p0_priorities q_p0_starts q_p0_estimates q_p0_many q_p0_newNames q_p0_numbers q_p0_newMany q_p0_needs q_p0_conditions q_p0_newNeeds q_p0_newConditions q_p0_needPlaces q_p0_rules q_p0_of q_p0_holidays q_p0_states q_p0_ran q_p0_sums q_p0_kept q_p0_startedJob q_p0_startedAt q_p0_ring q_p0_came q_p0_level q_p0_again q_p0_way q_p0_before q_p0_path v_p0_code v_p0_length v_p0_jobs v_p0_newJobs v_p0_made v_p0_days v_p0_now v_p0_started v_p0_ringSize v_p0_place f_p0_holidays) o (sc_B_isWork cI cL cM cZ q_p0 q_p0_text q_p0_names q_p0_calendars q_p0_priorities q_p0_starts q_p0_estimates q_p0_many q_p0_newNames q_p0_numbers q_p0_newMany q_p0_needs q_p0_conditions q_p0_newNeeds q_p0_newConditions q_p0_needPlaces q_p0_rules q_p0_of q_p0_holidays q_p0_states q_p0_ran q_p0_sums q_p0_kept q_p0_startedJob q_p0_startedAt q_p0_ring q_p0_came q_p0_level q_p0_again q_p0_way q_p0_before q_p0_path v_p0_code v_p0_length v_p0_jobs v_p0_newJobs v_p0_made v_p0_days v_p0_now v_p0_started v_p0_ringSize v_p0_place f_p0_holidays)) 0 0 (va_A ((sc_B_isWork cI cL cM cZ q_p0 q_p0_text q_p0_names q_p0_calendars q_p0_priorities q_p0_starts q_p0_estimates q_p0_many q_p0_newNames q_p0_numbers q_p0_newMany q_p0_needs q_p0_conditions q_p0_newNeeds q_p0_newConditions q_p0_needPlaces q_p0_rules q_p0_of q_p0_holidays q_p0_states q_p0_ran q_p0_sums q_p0_kept q_p0_startedJob q_p0_startedAt q_p0_ring q_p0_came q_p0_level q_p0_again q_p0_way q_p0_before q_p0_path v_p0_code v_p0_length v_p0_jobs v_p0_newJobs v_p0_made v_p0_days v_p0_now v_p0_started v_p0_ringSize v_p0_place f_p0_holidays)).flatten sz) := by
  refine sg_met (fun sz => cQi (dC, dI) vwCl [(cI, .int), (cL, .long), (cM, .array .int), (cZ, .boolean)] sz (sc_B_isWork cI cL cM cZ q_p0 q_p0_text q_p0_names q_p0_calendars q_p0_priorities q_p0_starts q_p0_estimates q_p0_many q_p0_newNames q_p0_numbers q_p0_newMany q_p0_needs q_p0_conditions q_p0_newNeeds q_p0_newConditions q_p0_needPlaces q_p0_rules q_p0_of q_p0_holidays q_p0_states q_p0_ran q_p0_sums q_p0_kept q_p0_startedJob q_p0_startedAt q_p0_ring q_p0_came q_p0_level q_p0_again q_p0_way q_p0_before q_p0_path v_p0_code v_p0_length v_p0_jobs v_p0_newJobs v_p0_made v_p0_days v_p0_now v_p0_started v_p0_ringSize v_p0_place f_p0_holidays) o (sc_B_isWork cI cL cM cZ q_p0 q_p0_text q_p0_names q_p0_calendars q_p0_priorities q_p0_starts q_p0_estimates q_p0_many q_p0_newNames q_p0_numbers q_p0_newMany q_p0_needs q_p0_conditions q_p0_newNeeds q_p0_newConditions q_p0_needPlaces q_p0_rules q_p0_of q_p0_holidays q_p0_states q_p0_ran q_p0_sums q_p0_kept q_p0_startedJob q_p0_startedAt q_p0_ring q_p0_came q_p0_level q_p0_again q_p0_way q_p0_before q_p0_path v_p0_code v_p0_length v_p0_jobs v_p0_newJobs v_p0_made v_p0_days v_p0_now v_p0_started v_p0_ringSize v_p0_place f_p0_holidays)) (by decide) (Nat.le_of_ble_eq_true rfl) ?_
  intro p e s m args below meth c A Q ls hx hb hr hts hown hlocks hml hname hK hNW hA hAe hQ hw hl
  have hl : lv_has ls 5 [(0, .ref q_p0), (1, .long a1_x)] := hl
  have hw : wk (dC, dI) vwCl A s.heap [[(q_p0, .inr (9, [.int v_p0_code, .ref q_p0_text, .int v_p0_length, .int v_p0_jobs, .int v_p0_newJobs, .ref q_p0_names, .ref q_p0_calendars, .ref q_p0_priorities, .ref q_p0_starts, .ref q_p0_estimates, .ref q_p0_many, .ref q_p0_newNames, .ref q_p0_numbers, .ref q_p0_newMany, .ref q_p0_needs, .ref q_p0_conditions, .ref q_p0_newNeeds, .ref q_p0_newConditions, .ref q_p0_needPlaces, .ref q_p0_rules, .ref q_p0_of, .int v_p0_made, .ref q_p0_holidays, .int v_p0_days, .ref q_p0_states, .ref q_p0_ran, .ref q_p0_sums, .ref q_p0_kept, .long v_p0_now, .ref q_p0_startedJob, .ref q_p0_startedAt, .int v_p0_started, .ref q_p0_ring, .ref q_p0_came, .ref q_p0_level, .int v_p0_ringSize, .ref q_p0_again, .ref q_p0_way, .ref q_p0_before, .ref q_p0_path, .int v_p0_place]))], [(q_p0_holidays, .inl (cL, 100, .inr (.inl f_p0_holidays)))]] s.heap [] := hw
  unfold md_B_isWork at hm
  refine lv_lload_n hx hb d_B_isWork_0 rfl (lv_at hl 1 rfl) ?_
  refine lv_ldc2 hx hb (v := 7) hown (hts _ wd_822) d_B_isWork_1 ?_
  refine lv_lrem hx hb d_B_isWork_4 (by decide) ?_
  refine lv_ldc2 hx hb (v := 4) hown (hts _ wd_828) d_B_isWork_5 ?_
  refine W.lcmp hx hb d_B_isWork_8 ?_
  obtain ⟨k17, hk17, hm⟩ := zl_x hm
  have J17 : ∀ (x1 : Int32) , k17 x1 = some o → ∀ (H : Heap) (locs : List Loc) (ls : Array Slot), wk (dC, dI) vwCl A s.heap [[(q_p0, .inr (9, [.int v_p0_code, .ref q_p0_text, .int v_p0_length, .int v_p0_jobs, .int v_p0_newJobs, .ref q_p0_names, .ref q_p0_calendars, .ref q_p0_priorities, .ref q_p0_starts, .ref q_p0_estimates, .ref q_p0_many, .ref q_p0_newNames, .ref q_p0_numbers, .ref q_p0_newMany, .ref q_p0_needs, .ref q_p0_conditions, .ref q_p0_newNeeds, .ref q_p0_newConditions, .ref q_p0_needPlaces, .ref q_p0_rules, .ref q_p0_of, .int v_p0_made, .ref q_p0_holidays, .int v_p0_days, .ref q_p0_states, .ref q_p0_ran, .ref q_p0_sums, .ref q_p0_kept, .long v_p0_now, .ref q_p0_startedJob, .ref q_p0_startedAt, .int v_p0_started, .ref q_p0_ring, .ref q_p0_came, .ref q_p0_level, .int v_p0_ringSize, .ref q_p0_again, .ref q_p0_way, .ref q_p0_before, .ref q_p0_path, .int v_p0_place]))], [(q_p0_holidays, .inl (cL, 100, .inr (.inl f_p0_holidays)))]] H locs → lv_has ls 5 [(0, .ref q_p0), (1, .long a1_x)] → W p l e rm_B_isWork s m args below meth c H locs 0 0 Q (F0 m 17 ls [.int x1]) := by
    intro x1 hm H locs ls hw hl
    subst hk17
    refine lv_istore_n (lv' := [(3, .int x1), (0, .ref q_p0), (1, .long a1_x)]) hx hb d_B_isWork_17 rfl hl (by decide) rfl (fun ls hl => ?_)
    refine lv_iconst (v := 0) hx hb d_B_isWork_18 (by decide) ?_
    refine lv_istore (lv' := [(4, .int (0 : Int32)), (3, .int x1), (0, .ref q_p0), (1, .long a1_x)]) hx hb d_B_isWork_19 hl (by decide) rfl (fun ls hl => ?_)
    obtain ⟨Fn21, hFn21, hm⟩ := fx2_x hm
    have L21 : ∀ (n : Nat) (x2 : Int32) (x3 : Int32), fx2 Fn21 n x2 x3 = some o → ∀ (H : Heap) (locs : List Loc) (ls : Array Slot), wk (dC, dI) vwCl A s.heap [[(q_p0, .inr (9, [.int v_p0_code, .ref q_p0_text, .int v_p0_length, .int v_p0_jobs, .int v_p0_newJobs, .ref q_p0_names, .ref q_p0_calendars, .ref q_p0_priorities, .ref q_p0_starts, .ref q_p0_estimates, .ref q_p0_many, .ref q_p0_newNames, .ref q_p0_numbers, .ref q_p0_newMany, .ref q_p0_needs, .ref q_p0_conditions, .ref q_p0_newNeeds, .ref q_p0_newConditions, .ref q_p0_needPlaces, .ref q_p0_rules, .ref q_p0_of, .int v_p0_made, .ref q_p0_holidays, .int v_p0_days, .ref q_p0_states, .ref q_p0_ran, .ref q_p0_sums, .ref q_p0_kept, .long v_p0_now, .ref q_p0_startedJob, .ref q_p0_startedAt, .int v_p0_started, .ref q_p0_ring, .ref q_p0_came, .ref q_p0_level, .int v_p0_ringSize, .ref q_p0_again, .ref q_p0_way, .ref q_p0_before, .ref q_p0_path, .int v_p0_place]))], [(q_p0_holidays, .inl (cL, 100, .inr (.inl f_p0_holidays)))]] H locs → lv_has ls 5 [(4, .int x2), (3, .int x3), (0, .ref q_p0), (1, .long a1_x)] → W p l e rm_B_isWork s m args below meth c H locs 0 0 Q (F0 m 21 ls []) := by
      intro n
      induction n with
      | zero => intro x2 x3 hm; exact (fx2_0 hm).elim
      | succ n ih21 =>
        intro x2 x3 hm H locs ls hw hl
        have hm := fx2_s hFn21 hm
        unfold md_B_isWork_F21 at hm
        refine lv_iload hx hb d_B_isWork_21 (lv_at hl 0 rfl) ?_
        refine lv_aload_n hx hb d_B_isWork_23 rfl (lv_at hl 2 rfl) ?_
        refine sg_get (D := (dC, dI)) (ci := 9) (v := .int v_p0_days) (C := "JobNetsModel") (T := T_9) (N := 41) hx hb hts hin_9 hown hK hw 0 rfl rfl 23 (by decide) (hts _ wd_639) rfl rfl d_B_isWork_24 ?_
        refine bq_t (lv_icmp_ge (tgt := 58) hx hb d_B_isWork_27 (by decide)) hm (fun hm => ?_) (fun hm => ?_)
        · refine lv_iload_n hx hb d_B_isWork_58 rfl (lv_at hl 1 rfl) ?_
          refine bq_n (lv_if_ne (tgt := 66) hx hb d_B_isWork_59 (by decide)) hm (fun hm => ?_) (fun hm => ?_)
          · refine lv_iconst (v := 0) hx hb d_B_isWork_66 (by decide) ?_
            exact so_zret (rf := fun z_ => z_) (Sf := fun z_ => sc_B_isWork cI cL cM cZ q_p0 q_p0_text q_p0_names q_p0_calendars q_p0_priorities q_p0_starts q_p0_estimates q_p0_many q_p0_newNames q_p0_numbers q_p0_newMany q_p0_needs q_p0_conditions q_p0_newNeeds q_p0_newConditions q_p0_needPlaces q_p0_rules q_p0_of q_p0_holidays q_p0_states q_p0_ran q_p0_sums q_p0_kept q_p0_startedJob q_p0_startedAt q_p0_ring q_p0_came q_p0_level q_p0_again q_p0_way q_p0_before q_p0_path v_p0_code v_p0_length v_p0_jobs v_p0_newJobs v_p0_made v_p0_days v_p0_now v_p0_started v_p0_ringSize v_p0_place f_p0_holidays) hm hx hb hr rfl hlocks hAe hQ hK hw rfl d_B_isWork_67
          · refine lv_iconst (v := 1) hx hb d_B_isWork_62 (by decide) ?_
            refine lv_goto (tgt := 67) hx hb d_B_isWork_63 (by decide) ?_
            exact so_zret (rf := fun z_ => z_) (Sf := fun z_ => sc_B_isWork cI cL cM cZ q_p0 q_p0_text q_p0_names q_p0_calendars q_p0_priorities q_p0_starts q_p0_estimates q_p0_many q_p0_newNames q_p0_numbers q_p0_newMany q_p0_needs q_p0_conditions q_p0_newNeeds q_p0_newConditions q_p0_needPlaces q_p0_rules q_p0_of q_p0_holidays q_p0_states q_p0_ran q_p0_sums q_p0_kept q_p0_startedJob q_p0_startedAt q_p0_ring q_p0_came q_p0_level q_p0_again q_p0_way q_p0_before q_p0_path v_p0_code v_p0_length v_p0_jobs v_p0_newJobs v_p0_made v_p0_days v_p0_now v_p0_started v_p0_ringSize v_p0_place f_p0_holidays) hm hx hb hr rfl hlocks hAe hQ hK hw rfl d_B_isWork_67
        · refine lv_iload_n hx hb d_B_isWork_30 rfl (lv_at hl 1 rfl) ?_
          refine bq_n (lv_if_ne (tgt := 46) hx hb d_B_isWork_31 (by decide)) hm (fun hm => ?_) (fun hm => ?_)
          · refine lv_iconst (v := 1) hx hb d_B_isWork_46 (by decide) ?_
            refine lv_goto (tgt := 51) hx hb d_B_isWork_47 (by decide) ?_
            refine lv_istore_n (lv' := [(3, .int (1 : Int32)), (4, .int x2), (0, .ref q_p0), (1, .long a1_x)]) hx hb d_B_isWork_51 rfl hl (by decide) rfl (fun ls hl => ?_)
            refine lv_iinc (v := x2 + 1) (lv' := [(4, .int (x2 + 1)), (3, .int (1 : Int32)), (0, .ref q_p0), (1, .long a1_x)]) hx hb d_B_isWork_52 hl (k := 1) rfl rfl (by decide) rfl (fun ls hl => ?_)
            refine lv_goto (tgt := 21) hx hb d_B_isWork_55 (by decide) ?_
            exact ih21 (x2 + 1) (1 : Int32) hm _ _ _ hw hl
          · refine lv_aload_n hx hb d_B_isWork_34 rfl (lv_at hl 2 rfl) ?_
            refine sg_get (D := (dC, dI)) (ci := 9) (v := .ref q_p0_holidays) (C := "JobNetsModel") (T := T_9) (N := 41) hx hb hts hin_9 hown hK hw 0 rfl rfl 22 (by decide) (hts _ wd_638) rfl rfl d_B_isWork_35 ?_
            refine lv_iload hx hb d_B_isWork_38 (lv_at hl 0 rfl) ?_
            refine sg_lald hx hb hK hw 1 1 rfl rfl d_B_isWork_40 hm (fun hm => ?_)
            refine lv_lload_n hx hb d_B_isWork_41 rfl (lv_at hl 3 rfl) ?_
            refine W.lcmp hx hb d_B_isWork_42 ?_
            refine bq_n (lv_if_ne (tgt := 50) hx hb d_B_isWork_43 (by decide)) hm (fun hm => ?_) (fun hm => ?_)
            · refine lv_iconst (v := 0) hx hb d_B_isWork_50 (by decide) ?_
              refine lv_istore_n (lv' := [(3, .int (0 : Int32)), (4, .int x2), (0, .ref q_p0), (1, .long a1_x)]) hx hb d_B_isWork_51 rfl hl (by decide) rfl (fun ls hl => ?_)
              refine lv_iinc (v := x2 + 1) (lv' := [(4, .int (x2 + 1)), (3, .int (0 : Int32)), (0, .ref q_p0), (1, .long a1_x)]) hx hb d_B_isWork_52 hl (k := 1) rfl rfl (by decide) rfl (fun ls hl => ?_)
              refine lv_goto (tgt := 21) hx hb d_B_isWork_55 (by decide) ?_
              exact ih21 (x2 + 1) (0 : Int32) hm _ _ _ hw hl
            · refine lv_iconst (v := 1) hx hb d_B_isWork_46 (by decide) ?_
              refine lv_goto (tgt := 51) hx hb d_B_isWork_47 (by decide) ?_
              refine lv_istore_n (lv' := [(3, .int (1 : Int32)), (4, .int x2), (0, .ref q_p0), (1, .long a1_x)]) hx hb d_B_isWork_51 rfl hl (by decide) rfl (fun ls hl => ?_)
              refine lv_iinc (v := x2 + 1) (lv' := [(4, .int (x2 + 1)), (3, .int (1 : Int32)), (0, .ref q_p0), (1, .long a1_x)]) hx hb d_B_isWork_52 hl (k := 1) rfl rfl (by decide) rfl (fun ls hl => ?_)
              refine lv_goto (tgt := 21) hx hb d_B_isWork_55 (by decide) ?_
              exact ih21 (x2 + 1) (1 : Int32) hm _ _ _ hw hl
    exact L21 _ _ _ hm _ _ _ hw hl
  refine bq_t (lv_if_le (tgt := 16) hx hb d_B_isWork_9 (by decide)) hm (fun hm => ?_) (fun hm => ?_)
  · refine lv_iconst (v := 0) hx hb d_B_isWork_16 (by decide) ?_
    exact J17 (0 : Int32) hm _ _ _ hw hl
  · refine lv_iconst (v := 1) hx hb d_B_isWork_12 (by decide) ?_
    refine lv_goto (tgt := 17) hx hb d_B_isWork_13 (by decide) ?_
    exact J17 (1 : Int32) hm _ _ _ hw hl
theorem d_B_has_0 : decode prog_11_method_21_code 0 = .ok (.iload_n 1, 1) := by decide +kernel
theorem d_B_has_1 : decode prog_11_method_21_code 1 = .ok (.ifCond .ne 5, 3) := by decide +kernel
theorem d_B_has_4 : decode prog_11_method_21_code 4 = .ok (.iconst 1, 1) := by decide +kernel
theorem d_B_has_5 : decode prog_11_method_21_code 5 = .ok (.ireturn, 1) := by decide +kernel
theorem d_B_has_6 : decode prog_11_method_21_code 6 = .ok (.iload_n 1, 1) := by decide +kernel
theorem d_B_has_7 : decode prog_11_method_21_code 7 = .ok (.ifCond .lt 11, 3) := by decide +kernel
theorem d_B_has_10 : decode prog_11_method_21_code 10 = .ok (.iload_n 1, 1) := by decide +kernel
theorem d_B_has_11 : decode prog_11_method_21_code 11 = .ok (.aload_n 0, 1) := by decide +kernel
theorem d_B_has_12 : decode prog_11_method_21_code 12 = .ok (.getfield 173, 3) := by decide +kernel
theorem d_B_has_15 : decode prog_11_method_21_code 15 = .ok (.if_icmp .le 5, 3) := by decide +kernel
theorem d_B_has_18 : decode prog_11_method_21_code 18 = .ok (.iconst 0, 1) := by decide +kernel
theorem d_B_has_19 : decode prog_11_method_21_code 19 = .ok (.ireturn, 1) := by decide +kernel
theorem d_B_has_20 : decode prog_11_method_21_code 20 = .ok (.aload_n 0, 1) := by decide +kernel
theorem d_B_has_21 : decode prog_11_method_21_code 21 = .ok (.getfield 58, 3) := by decide +kernel
theorem d_B_has_24 : decode prog_11_method_21_code 24 = .ok (.iload_n 1, 1) := by decide +kernel
theorem d_B_has_25 : decode prog_11_method_21_code 25 = .ok (.iaload, 1) := by decide +kernel
theorem d_B_has_26 : decode prog_11_method_21_code 26 = .ok (.istore 4, 2) := by decide +kernel
theorem d_B_has_28 : decode prog_11_method_21_code 28 = .ok (.aload_n 0, 1) := by decide +kernel
theorem d_B_has_29 : decode prog_11_method_21_code 29 = .ok (.getfield 55, 3) := by decide +kernel
theorem d_B_has_32 : decode prog_11_method_21_code 32 = .ok (.iload_n 1, 1) := by decide +kernel
theorem d_B_has_33 : decode prog_11_method_21_code 33 = .ok (.iaload, 1) := by decide +kernel
theorem d_B_has_34 : decode prog_11_method_21_code 34 = .ok (.tableswitch 142 0 2 #[26, 44, 112], 26) := by decide +kernel
theorem d_B_has_60 : decode prog_11_method_21_code 60 = .ok (.lload_n 2, 1) := by decide +kernel
theorem d_B_has_61 : decode prog_11_method_21_code 61 = .ok (.ldc2_w 181, 3) := by decide +kernel
theorem d_B_has_64 : decode prog_11_method_21_code 64 = .ok (.lrem, 1) := by decide +kernel
theorem d_B_has_65 : decode prog_11_method_21_code 65 = .ok (.iload 4, 2) := by decide +kernel
theorem d_B_has_67 : decode prog_11_method_21_code 67 = .ok (.i2l, 1) := by decide +kernel
theorem d_B_has_68 : decode prog_11_method_21_code 68 = .ok (.lcmp, 1) := by decide +kernel
theorem d_B_has_69 : decode prog_11_method_21_code 69 = .ok (.ifCond .ne 7, 3) := by decide +kernel
theorem d_B_has_72 : decode prog_11_method_21_code 72 = .ok (.iconst 1, 1) := by decide +kernel
theorem d_B_has_73 : decode prog_11_method_21_code 73 = .ok (.goto 4, 3) := by decide +kernel
theorem d_B_has_76 : decode prog_11_method_21_code 76 = .ok (.iconst 0, 1) := by decide +kernel
theorem d_B_has_77 : decode prog_11_method_21_code 77 = .ok (.ireturn, 1) := by decide +kernel
theorem d_B_has_78 : decode prog_11_method_21_code 78 = .ok (.iconst 0, 1) := by decide +kernel
theorem d_B_has_79 : decode prog_11_method_21_code 79 = .ok (.istore 5, 2) := by decide +kernel
theorem d_B_has_81 : decode prog_11_method_21_code 81 = .ok (.lload_n 2, 1) := by decide +kernel
theorem d_B_has_82 : decode prog_11_method_21_code 82 = .ok (.lload_n 2, 1) := by decide +kernel
theorem d_B_has_83 : decode prog_11_method_21_code 83 = .ok (.ldc2_w 185, 3) := by decide +kernel
theorem d_B_has_86 : decode prog_11_method_21_code 86 = .ok (.lrem, 1) := by decide +kernel
theorem d_B_has_87 : decode prog_11_method_21_code 87 = .ok (.lsub, 1) := by decide +kernel
theorem d_B_has_88 : decode prog_11_method_21_code 88 = .ok (.lstore 6, 2) := by decide +kernel
theorem d_B_has_90 : decode prog_11_method_21_code 90 = .ok (.lload 6, 2) := by decide +kernel
theorem d_B_has_92 : decode prog_11_method_21_code 92 = .ok (.lload_n 2, 1) := by decide +kernel
theorem d_B_has_93 : decode prog_11_method_21_code 93 = .ok (.lcmp, 1) := by decide +kernel
theorem d_B_has_94 : decode prog_11_method_21_code 94 = .ok (.ifCond .gt 31, 3) := by decide +kernel
theorem d_B_has_97 : decode prog_11_method_21_code 97 = .ok (.iload 5, 2) := by decide +kernel
theorem d_B_has_99 : decode prog_11_method_21_code 99 = .ok (.aload_n 0, 1) := by decide +kernel
theorem d_B_has_100 : decode prog_11_method_21_code 100 = .ok (.lload 6, 2) := by decide +kernel
theorem d_B_has_102 : decode prog_11_method_21_code 102 = .ok (.invokevirtual 187, 3) := by decide +kernel
theorem d_B_has_105 : decode prog_11_method_21_code 105 = .ok (.ifCond .eq 7, 3) := by decide +kernel
theorem d_B_has_108 : decode prog_11_method_21_code 108 = .ok (.iconst 1, 1) := by decide +kernel
theorem d_B_has_109 : decode prog_11_method_21_code 109 = .ok (.goto 4, 3) := by decide +kernel
theorem d_B_has_112 : decode prog_11_method_21_code 112 = .ok (.iconst 0, 1) := by decide +kernel
theorem d_B_has_113 : decode prog_11_method_21_code 113 = .ok (.iadd, 1) := by decide +kernel
theorem d_B_has_114 : decode prog_11_method_21_code 114 = .ok (.istore 5, 2) := by decide +kernel
theorem d_B_has_116 : decode prog_11_method_21_code 116 = .ok (.lload 6, 2) := by decide +kernel
theorem d_B_has_118 : decode prog_11_method_21_code 118 = .ok (.lconst 1, 1) := by decide +kernel
theorem d_B_has_119 : decode prog_11_method_21_code 119 = .ok (.ladd, 1) := by decide +kernel
theorem d_B_has_120 : decode prog_11_method_21_code 120 = .ok (.lstore 6, 2) := by decide +kernel
theorem d_B_has_122 : decode prog_11_method_21_code 122 = .ok (.goto (-32), 3) := by decide +kernel
theorem d_B_has_125 : decode prog_11_method_21_code 125 = .ok (.aload_n 0, 1) := by decide +kernel
theorem d_B_has_126 : decode prog_11_method_21_code 126 = .ok (.lload_n 2, 1) := by decide +kernel
theorem d_B_has_127 : decode prog_11_method_21_code 127 = .ok (.invokevirtual 187, 3) := by decide +kernel
theorem d_B_has_130 : decode prog_11_method_21_code 130 = .ok (.ifCond .eq 14, 3) := by decide +kernel
theorem d_B_has_133 : decode prog_11_method_21_code 133 = .ok (.iload 5, 2) := by decide +kernel
theorem d_B_has_135 : decode prog_11_method_21_code 135 = .ok (.iload 4, 2) := by decide +kernel
theorem d_B_has_137 : decode prog_11_method_21_code 137 = .ok (.if_icmp .ne 7, 3) := by decide +kernel
theorem d_B_has_140 : decode prog_11_method_21_code 140 = .ok (.iconst 1, 1) := by decide +kernel
theorem d_B_has_141 : decode prog_11_method_21_code 141 = .ok (.goto 4, 3) := by decide +kernel
theorem d_B_has_144 : decode prog_11_method_21_code 144 = .ok (.iconst 0, 1) := by decide +kernel
theorem d_B_has_145 : decode prog_11_method_21_code 145 = .ok (.ireturn, 1) := by decide +kernel
theorem d_B_has_146 : decode prog_11_method_21_code 146 = .ok (.lload_n 2, 1) := by decide +kernel
theorem d_B_has_147 : decode prog_11_method_21_code 147 = .ok (.ldc2_w 181, 3) := by decide +kernel
theorem d_B_has_150 : decode prog_11_method_21_code 150 = .ok (.lrem, 1) := by decide +kernel
theorem d_B_has_151 : decode prog_11_method_21_code 151 = .ok (.iload 4, 2) := by decide +kernel
theorem d_B_has_153 : decode prog_11_method_21_code 153 = .ok (.i2l, 1) := by decide +kernel
theorem d_B_has_154 : decode prog_11_method_21_code 154 = .ok (.lcmp, 1) := by decide +kernel
theorem d_B_has_155 : decode prog_11_method_21_code 155 = .ok (.ifCond .ne 19, 3) := by decide +kernel
theorem d_B_has_158 : decode prog_11_method_21_code 158 = .ok (.lload_n 2, 1) := by decide +kernel
theorem d_B_has_159 : decode prog_11_method_21_code 159 = .ok (.ldc2_w 185, 3) := by decide +kernel
theorem d_B_has_162 : decode prog_11_method_21_code 162 = .ok (.lrem, 1) := by decide +kernel
theorem d_B_has_163 : decode prog_11_method_21_code 163 = .ok (.ldc2_w 191, 3) := by decide +kernel
theorem d_B_has_166 : decode prog_11_method_21_code 166 = .ok (.lcmp, 1) := by decide +kernel
theorem d_B_has_167 : decode prog_11_method_21_code 167 = .ok (.ifCond .le 7, 3) := by decide +kernel
theorem d_B_has_170 : decode prog_11_method_21_code 170 = .ok (.iconst 1, 1) := by decide +kernel
theorem d_B_has_171 : decode prog_11_method_21_code 171 = .ok (.goto 4, 3) := by decide +kernel
theorem d_B_has_174 : decode prog_11_method_21_code 174 = .ok (.iconst 0, 1) := by decide +kernel
theorem d_B_has_175 : decode prog_11_method_21_code 175 = .ok (.ireturn, 1) := by decide +kernel
theorem d_B_has_176 : decode prog_11_method_21_code 176 = .ok (.aload_n 0, 1) := by decide +kernel
theorem d_B_has_177 : decode prog_11_method_21_code 177 = .ok (.lload_n 2, 1) := by decide +kernel
theorem d_B_has_178 : decode prog_11_method_21_code 178 = .ok (.invokevirtual 187, 3) := by decide +kernel
theorem d_B_has_181 : decode prog_11_method_21_code 181 = .ok (.ifCond .eq 21, 3) := by decide +kernel
theorem d_B_has_184 : decode prog_11_method_21_code 184 = .ok (.lload_n 2, 1) := by decide +kernel
theorem d_B_has_185 : decode prog_11_method_21_code 185 = .ok (.ldc2_w 185, 3) := by decide +kernel
theorem d_B_has_188 : decode prog_11_method_21_code 188 = .ok (.lrem, 1) := by decide +kernel
theorem d_B_has_189 : decode prog_11_method_21_code 189 = .ok (.lconst 1, 1) := by decide +kernel
theorem d_B_has_190 : decode prog_11_method_21_code 190 = .ok (.ladd, 1) := by decide +kernel
theorem d_B_has_191 : decode prog_11_method_21_code 191 = .ok (.iload 4, 2) := by decide +kernel
theorem d_B_has_193 : decode prog_11_method_21_code 193 = .ok (.i2l, 1) := by decide +kernel
theorem d_B_has_194 : decode prog_11_method_21_code 194 = .ok (.lcmp, 1) := by decide +kernel
theorem d_B_has_195 : decode prog_11_method_21_code 195 = .ok (.ifCond .eq 7, 3) := by decide +kernel
theorem d_B_has_198 : decode prog_11_method_21_code 198 = .ok (.iconst 1, 1) := by decide +kernel
theorem d_B_has_199 : decode prog_11_method_21_code 199 = .ok (.goto 4, 3) := by decide +kernel
theorem d_B_has_202 : decode prog_11_method_21_code 202 = .ok (.iconst 0, 1) := by decide +kernel
theorem d_B_has_203 : decode prog_11_method_21_code 203 = .ok (.ireturn, 1) := by decide +kernel
def md_B_has_F90 (v_p0_days : Int32) (f_p0_of : Nat → Int32) (f_p0_holidays : Nat → Int64) (a1_x : Int32) (a2_x : Int64) (N : Nat) (rec90 : Int64 → Int32 → Option (Int32)) (x5 : Int64) (x6 : Int32) : Option (Int32) :=
  (if 0 < (lg_cmp x5 a2_x) then (zc (md_B_isWork N v_p0_days f_p0_holidays a2_x) (fun o7 => (if o7 = 0 then (some (0 : Int32)) else (if x6 = (f_p0_of a1_x.toNatClampNeg) then (some (1 : Int32)) else (some (0 : Int32)))))) else (zc (md_B_isWork N v_p0_days f_p0_holidays x5) (fun o8 => (if o8 = 0 then (rec90 (x5 + (1 : Int64)) (x6 + (0 : Int32))) else (rec90 (x5 + (1 : Int64)) (x6 + (1 : Int32)))))))
def md_B_has (N : Nat) (v_p0_made : Int32) (v_p0_days : Int32) (f_p0_rules : Nat → Int32) (f_p0_of : Nat → Int32) (f_p0_holidays : Nat → Int64) (a1_x : Int32) (a2_x : Int64) : Option (Int32) :=
  (if a1_x = 0 then (some (1 : Int32)) else (if a1_x < 0 then (some (0 : Int32)) else (if a1_x ≤ v_p0_made then (if sg_in a1_x 21 = true then (if sg_in a1_x 21 = true then (zl (f_p0_rules a1_x.toNatClampNeg) (fun x1 => (if x1 = (0 : Int32) then (if (lg_cmp (a2_x - a2_x / (7 : Int64) * (7 : Int64)) ((f_p0_of a1_x.toNatClampNeg).toInt64)) = 0 then (some (1 : Int32)) else (some (0 : Int32))) else (if x1 = (1 : Int32) then (zl (a2_x - (a2_x - a2_x / (30 : Int64) * (30 : Int64))) (fun x4 => (fx2 (md_B_has_F90 v_p0_days f_p0_of f_p0_holidays a1_x a2_x N) N x4 (0 : Int32)))) else (if x1 = (2 : Int32) then (if (lg_cmp (a2_x - a2_x / (7 : Int64) * (7 : Int64)) ((f_p0_of a1_x.toNatClampNeg).toInt64)) = 0 then (if (lg_cmp (a2_x - a2_x / (30 : Int64) * (30 : Int64)) (22 : Int64)) ≤ 0 then (some (0 : Int32)) else (some (1 : Int32))) else (some (0 : Int32))) else (zc (md_B_isWork N v_p0_days f_p0_holidays a2_x) (fun o10 => (if o10 = 0 then (some (0 : Int32)) else (if (lg_cmp ((a2_x - a2_x / (30 : Int64) * (30 : Int64)) + (1 : Int64)) ((f_p0_of a1_x.toNatClampNeg).toInt64)) = 0 then (some (0 : Int32)) else (some (1 : Int32))))))))))) else none) else none) else (some (0 : Int32)))))
abbrev sc_B_has (cI cL cM cZ : ClassId) (q_p0 q_p0_text q_p0_names q_p0_calendars q_p0_priorities q_p0_starts q_p0_estimates q_p0_many q_p0_newNames q_p0_numbers q_p0_newMany q_p0_needs q_p0_conditions q_p0_newNeeds q_p0_newConditions q_p0_needPlaces q_p0_rules q_p0_of q_p0_holidays q_p0_states q_p0_ran q_p0_sums q_p0_kept q_p0_startedJob q_p0_startedAt q_p0_ring q_p0_came q_p0_level q_p0_again q_p0_way q_p0_before q_p0_path : Nat) (v_p0_code : Int32) (v_p0_length : Int32) (v_p0_jobs : Int32) (v_p0_newJobs : Int32) (v_p0_made : Int32) (v_p0_days : Int32) (v_p0_now : Int64) (v_p0_started : Int32) (v_p0_ringSize : Int32) (v_p0_place : Int32) (f_p0_rules : Nat → Int32) (f_p0_of : Nat → Int32) (f_p0_holidays : Nat → Int64) : List va_W := [[(q_p0, .inr (9, [.int v_p0_code, .ref q_p0_text, .int v_p0_length, .int v_p0_jobs, .int v_p0_newJobs, .ref q_p0_names, .ref q_p0_calendars, .ref q_p0_priorities, .ref q_p0_starts, .ref q_p0_estimates, .ref q_p0_many, .ref q_p0_newNames, .ref q_p0_numbers, .ref q_p0_newMany, .ref q_p0_needs, .ref q_p0_conditions, .ref q_p0_newNeeds, .ref q_p0_newConditions, .ref q_p0_needPlaces, .ref q_p0_rules, .ref q_p0_of, .int v_p0_made, .ref q_p0_holidays, .int v_p0_days, .ref q_p0_states, .ref q_p0_ran, .ref q_p0_sums, .ref q_p0_kept, .long v_p0_now, .ref q_p0_startedJob, .ref q_p0_startedAt, .int v_p0_started, .ref q_p0_ring, .ref q_p0_came, .ref q_p0_level, .int v_p0_ringSize, .ref q_p0_again, .ref q_p0_way, .ref q_p0_before, .ref q_p0_path, .int v_p0_place]))], [(q_p0_rules, .inl (cI, 21, .inl f_p0_rules))], [(q_p0_of, .inl (cI, 21, .inl f_p0_of))], [(q_p0_holidays, .inl (cL, 100, .inr (.inl f_p0_holidays)))]]
abbrev rm_B_has : Room := { frames := 1, cells := 0, slots := 0, locals := 24 }
set_option maxHeartbeats 4000000 in
set_option maxRecDepth 100000 in
theorem ct_B_has (l : Launch) (dC : Nat → ClassId) (dI : Nat → Nat → Nat) (cI cL cM cZ : ClassId) (q_p0 q_p0_text q_p0_names q_p0_calendars q_p0_priorities q_p0_starts q_p0_estimates q_p0_many q_p0_newNames q_p0_numbers q_p0_newMany q_p0_needs q_p0_conditions q_p0_newNeeds q_p0_newConditions q_p0_needPlaces q_p0_rules q_p0_of q_p0_holidays q_p0_states q_p0_ran q_p0_sums q_p0_kept q_p0_startedJob q_p0_startedAt q_p0_ring q_p0_came q_p0_level q_p0_again q_p0_way q_p0_before q_p0_path : Nat) (v_p0_code : Int32) (v_p0_length : Int32) (v_p0_jobs : Int32) (v_p0_newJobs : Int32) (v_p0_made : Int32) (v_p0_days : Int32) (v_p0_now : Int64) (v_p0_started : Int32) (v_p0_ringSize : Int32) (v_p0_place : Int32) (f_p0_rules : Nat → Int32) (f_p0_of : Nat → Int32) (f_p0_holidays : Nat → Int64) (a1_x : Int32) (a2_x : Int64) (N : Nat) (o : Int32) (hm : md_B_has N v_p0_made v_p0_days f_p0_rules f_p0_of f_p0_holidays a1_x a2_x = some o) : ∀ sz : Nat, Met l y_B_has ws_B_has rm_B_has (cP (dC, dI) vwCl [(cI, .int), (cL, .long), (cM, .array .int), (cZ, .boolean)] [.ref q_p0, .int a1_x, .long a2_x] sz (sc_B_has cI cL cM cZ q_p0 q_p0_text q_p0_names q_p0_calendars q_p0_priorities q_p0_starts q_p0_estimates q_p0_many q_p0_newNames q_p0_numbers q_p0_newMany q_p0_needs q_p0_conditions q_p0_newNeeds q_p0_newConditions q_p0_needPlaces q_p0_rules q_p0_of q_p0_holidays q_p0_states q_p0_ran q_p0_sums q_p0_kept q_p0_startedJob q_p0_startedAt q_p0_ring q_p0_came q_p0_level q_p0_again q_p0_way q_p0_before q_p0_path v_p0_code v_p0_length v_p0_jobs v_p0_newJobs v_p0_made v_p0_days v_p0_now v_p0_started v_p0_ringSize v_p0_place f_p0_rules f_p0_of f_p0_holidays)) (cQi (dC, dI) vwCl [(cI, .int), (cL, .long), (cM, .array .int), (cZ, .boolean)] sz (sc_B_has cI cL cM cZ q_p0 q_p0_text q_p0_names q_p0_calendars q_p0_priorities q_p0_starts q_p0_estimates q_p0_many q_p0_newNames q_p0_numbers q_p0_newMany q_p0_needs q_p0_conditions q_p0_newNeeds q_p0_newConditions q_p0_needPlaces q_p0_rules q_p0_of q_p0_holidays q_p0_states q_p0_ran q_p0_sums q_p0_kept q_p0_startedJob q_p0_startedAt q_p0_ring q_p0_came q_p0_level q_p0_again q_p0_way q_p0_before q_p0_path v_p0_code v_p0_length v_p0_jobs v_p0_newJobs v_p0_made v_p0_days v_p0_now v_p0_started v_p0_ringSize v_p0_place f_p0_rules f_p0_of f_p0_holidays) o (sc_B_has cI cL cM cZ q_p0 q_p0_text q_p0_names q_p0_calendars q_p0_priorities q_p0_starts q_p0_estimates q_p0_many q_p0_newNames q_p0_numbers q_p0_newMany q_p0_needs q_p0_conditions q_p0_newNeeds q_p0_newConditions q_p0_needPlaces q_p0_rules q_p0_of q_p0_holidays q_p0_states q_p0_ran q_p0_sums q_p0_kept q_p0_startedJob q_p0_startedAt q_p0_ring q_p0_came q_p0_level q_p0_again q_p0_way q_p0_before q_p0_path v_p0_code v_p0_length v_p0_jobs v_p0_newJobs v_p0_made v_p0_days v_p0_now v_p0_started v_p0_ringSize v_p0_place f_p0_rules f_p0_of f_p0_holidays)) 0 0 (va_A ((sc_B_has cI cL cM cZ q_p0 q_p0_text q_p0_names q_p0_calendars q_p0_priorities q_p0_starts q_p0_estimates q_p0_many q_p0_newNames q_p0_numbers q_p0_newMany q_p0_needs q_p0_conditions q_p0_newNeeds q_p0_newConditions q_p0_needPlaces q_p0_rules q_p0_of q_p0_holidays q_p0_states q_p0_ran q_p0_sums q_p0_kept q_p0_startedJob q_p0_startedAt q_p0_ring q_p0_came q_p0_level q_p0_again q_p0_way q_p0_before q_p0_path v_p0_code v_p0_length v_p0_jobs v_p0_newJobs v_p0_made v_p0_days v_p0_now v_p0_started v_p0_ringSize v_p0_place f_p0_rules f_p0_of f_p0_holidays)).flatten sz) := by
  refine sg_met (fun sz => cQi (dC, dI) vwCl [(cI, .int), (cL, .long), (cM, .array .int), (cZ, .boolean)] sz (sc_B_has cI cL cM cZ q_p0 q_p0_text q_p0_names q_p0_calendars q_p0_priorities q_p0_starts q_p0_estimates q_p0_many q_p0_newNames q_p0_numbers q_p0_newMany q_p0_needs q_p0_conditions q_p0_newNeeds q_p0_newConditions q_p0_needPlaces q_p0_rules q_p0_of q_p0_holidays q_p0_states q_p0_ran q_p0_sums q_p0_kept q_p0_startedJob q_p0_startedAt q_p0_ring q_p0_came q_p0_level q_p0_again q_p0_way q_p0_before q_p0_path v_p0_code v_p0_length v_p0_jobs v_p0_newJobs v_p0_made v_p0_days v_p0_now v_p0_started v_p0_ringSize v_p0_place f_p0_rules f_p0_of f_p0_holidays) o (sc_B_has cI cL cM cZ q_p0 q_p0_text q_p0_names q_p0_calendars q_p0_priorities q_p0_starts q_p0_estimates q_p0_many q_p0_newNames q_p0_numbers q_p0_newMany q_p0_needs q_p0_conditions q_p0_newNeeds q_p0_newConditions q_p0_needPlaces q_p0_rules q_p0_of q_p0_holidays q_p0_states q_p0_ran q_p0_sums q_p0_kept q_p0_startedJob q_p0_startedAt q_p0_ring q_p0_came q_p0_level q_p0_again q_p0_way q_p0_before q_p0_path v_p0_code v_p0_length v_p0_jobs v_p0_newJobs v_p0_made v_p0_days v_p0_now v_p0_started v_p0_ringSize v_p0_place f_p0_rules f_p0_of f_p0_holidays)) (by decide) (Nat.le_of_ble_eq_true rfl) ?_
  intro p e s m args below meth c A Q ls hx hb hr hts hown hlocks hml hname hK hNW hA hAe hQ hw hl
  have hl : lv_has ls 8 [(0, .ref q_p0), (1, .int a1_x), (2, .long a2_x)] := hl
  have hw : wk (dC, dI) vwCl A s.heap [[(q_p0, .inr (9, [.int v_p0_code, .ref q_p0_text, .int v_p0_length, .int v_p0_jobs, .int v_p0_newJobs, .ref q_p0_names, .ref q_p0_calendars, .ref q_p0_priorities, .ref q_p0_starts, .ref q_p0_estimates, .ref q_p0_many, .ref q_p0_newNames, .ref q_p0_numbers, .ref q_p0_newMany, .ref q_p0_needs, .ref q_p0_conditions, .ref q_p0_newNeeds, .ref q_p0_newConditions, .ref q_p0_needPlaces, .ref q_p0_rules, .ref q_p0_of, .int v_p0_made, .ref q_p0_holidays, .int v_p0_days, .ref q_p0_states, .ref q_p0_ran, .ref q_p0_sums, .ref q_p0_kept, .long v_p0_now, .ref q_p0_startedJob, .ref q_p0_startedAt, .int v_p0_started, .ref q_p0_ring, .ref q_p0_came, .ref q_p0_level, .int v_p0_ringSize, .ref q_p0_again, .ref q_p0_way, .ref q_p0_before, .ref q_p0_path, .int v_p0_place]))], [(q_p0_rules, .inl (cI, 21, .inl f_p0_rules))], [(q_p0_of, .inl (cI, 21, .inl f_p0_of))], [(q_p0_holidays, .inl (cL, 100, .inr (.inl f_p0_holidays)))]] s.heap [] := hw
  unfold md_B_has at hm
  refine lv_iload_n hx hb d_B_has_0 rfl (lv_at hl 1 rfl) ?_
  refine bq_n (lv_if_ne (tgt := 6) hx hb d_B_has_1 (by decide)) hm (fun hm => ?_) (fun hm => ?_)
  · refine lv_iload_n hx hb d_B_has_6 rfl (lv_at hl 1 rfl) ?_
    refine bq_t (lv_if_lt (tgt := 18) hx hb d_B_has_7 (by decide)) hm (fun hm => ?_) (fun hm => ?_)
    · refine lv_iconst (v := 0) hx hb d_B_has_18 (by decide) ?_
      exact so_zret (rf := fun z_ => z_) (Sf := fun z_ => sc_B_has cI cL cM cZ q_p0 q_p0_text q_p0_names q_p0_calendars q_p0_priorities q_p0_starts q_p0_estimates q_p0_many q_p0_newNames q_p0_numbers q_p0_newMany q_p0_needs q_p0_conditions q_p0_newNeeds q_p0_newConditions q_p0_needPlaces q_p0_rules q_p0_of q_p0_holidays q_p0_states q_p0_ran q_p0_sums q_p0_kept q_p0_startedJob q_p0_startedAt q_p0_ring q_p0_came q_p0_level q_p0_again q_p0_way q_p0_before q_p0_path v_p0_code v_p0_length v_p0_jobs v_p0_newJobs v_p0_made v_p0_days v_p0_now v_p0_started v_p0_ringSize v_p0_place f_p0_rules f_p0_of f_p0_holidays) hm hx hb hr rfl hlocks hAe hQ hK hw rfl d_B_has_19
    · refine lv_iload_n hx hb d_B_has_10 rfl (lv_at hl 1 rfl) ?_
      refine lv_aload_n hx hb d_B_has_11 rfl (lv_at hl 0 rfl) ?_
      refine sg_get (D := (dC, dI)) (ci := 9) (v := .int v_p0_made) (C := "JobNetsModel") (T := T_9) (N := 41) hx hb hts hin_9 hown hK hw 0 rfl rfl 21 (by decide) (hts _ wd_637) rfl rfl d_B_has_12 ?_
      refine bq_t (lv_icmp_le (tgt := 20) hx hb d_B_has_15 (by decide)) hm (fun hm => ?_) (fun hm => ?_)
      · refine lv_aload_n hx hb d_B_has_20 rfl (lv_at hl 0 rfl) ?_
        refine sg_get (D := (dC, dI)) (ci := 9) (v := .ref q_p0_of) (C := "JobNetsModel") (T := T_9) (N := 41) hx hb hts hin_9 hown hK hw 0 rfl rfl 20 (by decide) (hts _ wd_636) rfl rfl d_B_has_21 ?_
        refine lv_iload_n hx hb d_B_has_24 rfl (lv_at hl 1 rfl) ?_
        refine sg_iald hx hb hK hw 2 0 rfl rfl d_B_has_25 hm (fun hm => ?_)
        refine lv_istore (lv' := [(4, .int (f_p0_of a1_x.toNatClampNeg)), (0, .ref q_p0), (1, .int a1_x), (2, .long a2_x)]) hx hb d_B_has_26 hl (by decide) rfl (fun ls hl => ?_)
        refine lv_aload_n hx hb d_B_has_28 rfl (lv_at hl 1 rfl) ?_
        refine sg_get (D := (dC, dI)) (ci := 9) (v := .ref q_p0_rules) (C := "JobNetsModel") (T := T_9) (N := 41) hx hb hts hin_9 hown hK hw 0 rfl rfl 19 (by decide) (hts _ wd_635) rfl rfl d_B_has_29 ?_
        refine lv_iload_n hx hb d_B_has_32 rfl (lv_at hl 2 rfl) ?_
        refine sg_iald hx hb hK hw 1 0 rfl rfl d_B_has_33 hm (fun hm => ?_)
        refine nm_i hm (fun x1 hm => ?_)
        refine it_c hm (fun hc2 hm => ?_) (fun hc2 hm => ?_)
        · refine lv_tableIn (tgt := 60) hx hb d_B_has_34 (by rw [hc2]; decide) (by rw [hc2]; decide) (by rw [hc2]; rfl) (by decide) ?_
          refine lv_lload_n hx hb d_B_has_60 rfl (lv_at hl 3 rfl) ?_
          refine lv_ldc2 hx hb (v := 7) hown (hts _ wd_822) d_B_has_61 ?_
          refine lv_lrem hx hb d_B_has_64 (by decide) ?_
          refine lv_iload hx hb d_B_has_65 (lv_at hl 0 rfl) ?_
          refine lv_i2l hx hb d_B_has_67 rfl ?_
          refine W.lcmp hx hb d_B_has_68 ?_
          refine bq_n (lv_if_ne (tgt := 76) hx hb d_B_has_69 (by decide)) hm (fun hm => ?_) (fun hm => ?_)
          · refine lv_iconst (v := 0) hx hb d_B_has_76 (by decide) ?_
            exact so_zret (rf := fun z_ => z_) (Sf := fun z_ => sc_B_has cI cL cM cZ q_p0 q_p0_text q_p0_names q_p0_calendars q_p0_priorities q_p0_starts q_p0_estimates q_p0_many q_p0_newNames q_p0_numbers q_p0_newMany q_p0_needs q_p0_conditions q_p0_newNeeds q_p0_newConditions q_p0_needPlaces q_p0_rules q_p0_of q_p0_holidays q_p0_states q_p0_ran q_p0_sums q_p0_kept q_p0_startedJob q_p0_startedAt q_p0_ring q_p0_came q_p0_level q_p0_again q_p0_way q_p0_before q_p0_path v_p0_code v_p0_length v_p0_jobs v_p0_newJobs v_p0_made v_p0_days v_p0_now v_p0_started v_p0_ringSize v_p0_place f_p0_rules f_p0_of f_p0_holidays) hm hx hb hr rfl hlocks hAe hQ hK hw rfl d_B_has_77
          · refine lv_iconst (v := 1) hx hb d_B_has_72 (by decide) ?_
            refine lv_goto (tgt := 77) hx hb d_B_has_73 (by decide) ?_
            exact so_zret (rf := fun z_ => z_) (Sf := fun z_ => sc_B_has cI cL cM cZ q_p0 q_p0_text q_p0_names q_p0_calendars q_p0_priorities q_p0_starts q_p0_estimates q_p0_many q_p0_newNames q_p0_numbers q_p0_newMany q_p0_needs q_p0_conditions q_p0_newNeeds q_p0_newConditions q_p0_needPlaces q_p0_rules q_p0_of q_p0_holidays q_p0_states q_p0_ran q_p0_sums q_p0_kept q_p0_startedJob q_p0_startedAt q_p0_ring q_p0_came q_p0_level q_p0_again q_p0_way q_p0_before q_p0_path v_p0_code v_p0_length v_p0_jobs v_p0_newJobs v_p0_made v_p0_days v_p0_now v_p0_started v_p0_ringSize v_p0_place f_p0_rules f_p0_of f_p0_holidays) hm hx hb hr rfl hlocks hAe hQ hK hw rfl d_B_has_77
        · skip
          refine it_c hm (fun hc3 hm => ?_) (fun hc3 hm => ?_)
          · refine lv_tableIn (tgt := 78) hx hb d_B_has_34 (by rw [hc3]; decide) (by rw [hc3]; decide) (by rw [hc3]; rfl) (by decide) ?_
            refine lv_iconst (v := 0) hx hb d_B_has_78 (by decide) ?_
            refine lv_istore (lv' := [(5, .int (0 : Int32)), (4, .int (f_p0_of a1_x.toNatClampNeg)), (0, .ref q_p0), (1, .int a1_x), (2, .long a2_x)]) hx hb d_B_has_79 hl (by decide) rfl (fun ls hl => ?_)
            refine lv_lload_n hx hb d_B_has_81 rfl (lv_at hl 4 rfl) ?_
            refine lv_lload_n hx hb d_B_has_82 rfl (lv_at hl 4 rfl) ?_
            refine lv_ldc2 hx hb (v := 30) hown (hts _ wd_823) d_B_has_83 ?_
            refine lv_lrem hx hb d_B_has_86 (by decide) ?_
            refine lv_lsub hx hb d_B_has_87 ?_
            refine nm_l hm (fun x4 hm => ?_)
            refine lv_lstore (lv' := [(6, .long x4), (5, .int (0 : Int32)), (4, .int (f_p0_of a1_x.toNatClampNeg)), (0, .ref q_p0), (1, .int a1_x), (2, .long a2_x)]) hx hb d_B_has_88 hl (by decide) rfl (fun ls hl => ?_)
            obtain ⟨Fn90, hFn90, hm⟩ := fx2_x hm
            have L90 : ∀ (n : Nat) (x5 : Int64) (x6 : Int32), fx2 Fn90 n x5 x6 = some o → ∀ (H : Heap) (locs : List Loc) (ls : Array Slot), wk (dC, dI) vwCl A s.heap [[(q_p0, .inr (9, [.int v_p0_code, .ref q_p0_text, .int v_p0_length, .int v_p0_jobs, .int v_p0_newJobs, .ref q_p0_names, .ref q_p0_calendars, .ref q_p0_priorities, .ref q_p0_starts, .ref q_p0_estimates, .ref q_p0_many, .ref q_p0_newNames, .ref q_p0_numbers, .ref q_p0_newMany, .ref q_p0_needs, .ref q_p0_conditions, .ref q_p0_newNeeds, .ref q_p0_newConditions, .ref q_p0_needPlaces, .ref q_p0_rules, .ref q_p0_of, .int v_p0_made, .ref q_p0_holidays, .int v_p0_days, .ref q_p0_states, .ref q_p0_ran, .ref q_p0_sums, .ref q_p0_kept, .long v_p0_now, .ref q_p0_startedJob, .ref q_p0_startedAt, .int v_p0_started, .ref q_p0_ring, .ref q_p0_came, .ref q_p0_level, .int v_p0_ringSize, .ref q_p0_again, .ref q_p0_way, .ref q_p0_before, .ref q_p0_path, .int v_p0_place]))], [(q_p0_rules, .inl (cI, 21, .inl f_p0_rules))], [(q_p0_of, .inl (cI, 21, .inl f_p0_of))], [(q_p0_holidays, .inl (cL, 100, .inr (.inl f_p0_holidays)))]] H locs → lv_has ls 8 [(6, .long x5), (5, .int x6), (4, .int (f_p0_of a1_x.toNatClampNeg)), (0, .ref q_p0), (2, .long a2_x)] → W p l e rm_B_has s m args below meth c H locs 0 0 Q (F0 m 90 ls []) := by
              intro n
              induction n with
              | zero => intro x5 x6 hm; exact (fx2_0 hm).elim
              | succ n ih90 =>
                intro x5 x6 hm H locs ls hw hl
                have hm := fx2_s hFn90 hm
                unfold md_B_has_F90 at hm
                refine lv_lload hx hb d_B_has_90 (lv_at hl 0 rfl) ?_
                refine lv_lload_n hx hb d_B_has_92 rfl (lv_at hl 4 rfl) ?_
                refine W.lcmp hx hb d_B_has_93 ?_
                refine bq_t (lv_if_gt (tgt := 125) hx hb d_B_has_94 (by decide)) hm (fun hm => ?_) (fun hm => ?_)
                · refine lv_aload_n hx hb d_B_has_125 rfl (lv_at hl 3 rfl) ?_
                  refine lv_lload_n hx hb d_B_has_126 rfl (lv_at hl 4 rfl) ?_
                  obtain ⟨o7, h7, hm⟩ := zc_x hm
                  refine sg_ci0 (Sr := [[(q_p0_rules, .inl (cI, 21, .inl f_p0_rules))], [(q_p0_of, .inl (cI, 21, .inl f_p0_of))]]) (va_runV (As := [.long a2_x]) (rest := []) ⟨hx, hb, hml, hown, hts⟩ (ct_B_isWork l dC dI cI cL cM cZ q_p0 q_p0_text q_p0_names q_p0_calendars q_p0_priorities q_p0_starts q_p0_estimates q_p0_many q_p0_newNames q_p0_numbers q_p0_newMany q_p0_needs q_p0_conditions q_p0_newNeeds q_p0_newConditions q_p0_needPlaces q_p0_rules q_p0_of q_p0_holidays q_p0_states q_p0_ran q_p0_sums q_p0_kept q_p0_startedJob q_p0_startedAt q_p0_ring q_p0_came q_p0_level q_p0_again q_p0_way q_p0_before q_p0_path v_p0_code v_p0_length v_p0_jobs v_p0_newJobs v_p0_made v_p0_days v_p0_now v_p0_started v_p0_ringSize v_p0_place f_p0_holidays a2_x N o7 h7 _) (cwV 1 hts (gd_V wd_824 wd_826 ws_31 wd_10 wd_827) rfl rfl rfl (by decide +kernel) ⟨Nat.le_of_ble_eq_true rfl, Nat.le_of_ble_eq_true rfl⟩) (sg_preV (ci := 9) (q0 := 0) hK hNW hw [0, 3] rfl rfl rfl rfl) rfl rfl hl.1 rfl (lv_room (Nat.le_of_ble_eq_true rfl)) d_B_has_127 ⟨Nat.le_of_ble_eq_true rfl, Nat.le_of_ble_eq_true rfl⟩) hw hA [0, 3] [1, 2] rfl rfl rfl (by decide) (fun H locs hw => ?_)
                  have hw : wk (dC, dI) vwCl A s.heap [[(q_p0_rules, .inl (cI, 21, .inl f_p0_rules))], [(q_p0_of, .inl (cI, 21, .inl f_p0_of))], [(q_p0, .inr (9, [.int v_p0_code, .ref q_p0_text, .int v_p0_length, .int v_p0_jobs, .int v_p0_newJobs, .ref q_p0_names, .ref q_p0_calendars, .ref q_p0_priorities, .ref q_p0_starts, .ref q_p0_estimates, .ref q_p0_many, .ref q_p0_newNames, .ref q_p0_numbers, .ref q_p0_newMany, .ref q_p0_needs, .ref q_p0_conditions, .ref q_p0_newNeeds, .ref q_p0_newConditions, .ref q_p0_needPlaces, .ref q_p0_rules, .ref q_p0_of, .int v_p0_made, .ref q_p0_holidays, .int v_p0_days, .ref q_p0_states, .ref q_p0_ran, .ref q_p0_sums, .ref q_p0_kept, .long v_p0_now, .ref q_p0_startedJob, .ref q_p0_startedAt, .int v_p0_started, .ref q_p0_ring, .ref q_p0_came, .ref q_p0_level, .int v_p0_ringSize, .ref q_p0_again, .ref q_p0_way, .ref q_p0_before, .ref q_p0_path, .int v_p0_place]))], [(q_p0_holidays, .inl (cL, 100, .inr (.inl f_p0_holidays)))]] H locs := hw
                  refine bq_t (lv_if_eq (tgt := 144) hx hb d_B_has_130 (by decide)) hm (fun hm => ?_) (fun hm => ?_)
                  · refine lv_iconst (v := 0) hx hb d_B_has_144 (by decide) ?_
                    exact so_zret (rf := fun z_ => z_) (Sf := fun z_ => sc_B_has cI cL cM cZ q_p0 q_p0_text q_p0_names q_p0_calendars q_p0_priorities q_p0_starts q_p0_estimates q_p0_many q_p0_newNames q_p0_numbers q_p0_newMany q_p0_needs q_p0_conditions q_p0_newNeeds q_p0_newConditions q_p0_needPlaces q_p0_rules q_p0_of q_p0_holidays q_p0_states q_p0_ran q_p0_sums q_p0_kept q_p0_startedJob q_p0_startedAt q_p0_ring q_p0_came q_p0_level q_p0_again q_p0_way q_p0_before q_p0_path v_p0_code v_p0_length v_p0_jobs v_p0_newJobs v_p0_made v_p0_days v_p0_now v_p0_started v_p0_ringSize v_p0_place f_p0_rules f_p0_of f_p0_holidays) hm hx hb hr rfl hlocks hAe hQ hK (hw.sub [2, 0, 1, 3] (by decide) rfl) rfl d_B_has_145
                  · refine lv_iload hx hb d_B_has_133 (lv_at hl 1 rfl) ?_
                    refine lv_iload hx hb d_B_has_135 (lv_at hl 2 rfl) ?_
                    refine bq_n (lv_icmp_ne (tgt := 144) hx hb d_B_has_137 (by decide)) hm (fun hm => ?_) (fun hm => ?_)
                    · refine lv_iconst (v := 0) hx hb d_B_has_144 (by decide) ?_
                      exact so_zret (rf := fun z_ => z_) (Sf := fun z_ => sc_B_has cI cL cM cZ q_p0 q_p0_text q_p0_names q_p0_calendars q_p0_priorities q_p0_starts q_p0_estimates q_p0_many q_p0_newNames q_p0_numbers q_p0_newMany q_p0_needs q_p0_conditions q_p0_newNeeds q_p0_newConditions q_p0_needPlaces q_p0_rules q_p0_of q_p0_holidays q_p0_states q_p0_ran q_p0_sums q_p0_kept q_p0_startedJob q_p0_startedAt q_p0_ring q_p0_came q_p0_level q_p0_again q_p0_way q_p0_before q_p0_path v_p0_code v_p0_length v_p0_jobs v_p0_newJobs v_p0_made v_p0_days v_p0_now v_p0_started v_p0_ringSize v_p0_place f_p0_rules f_p0_of f_p0_holidays) hm hx hb hr rfl hlocks hAe hQ hK (hw.sub [2, 0, 1, 3] (by decide) rfl) rfl d_B_has_145
                    · refine lv_iconst (v := 1) hx hb d_B_has_140 (by decide) ?_
                      refine lv_goto (tgt := 145) hx hb d_B_has_141 (by decide) ?_
                      exact so_zret (rf := fun z_ => z_) (Sf := fun z_ => sc_B_has cI cL cM cZ q_p0 q_p0_text q_p0_names q_p0_calendars q_p0_priorities q_p0_starts q_p0_estimates q_p0_many q_p0_newNames q_p0_numbers q_p0_newMany q_p0_needs q_p0_conditions q_p0_newNeeds q_p0_newConditions q_p0_needPlaces q_p0_rules q_p0_of q_p0_holidays q_p0_states q_p0_ran q_p0_sums q_p0_kept q_p0_startedJob q_p0_startedAt q_p0_ring q_p0_came q_p0_level q_p0_again q_p0_way q_p0_before q_p0_path v_p0_code v_p0_length v_p0_jobs v_p0_newJobs v_p0_made v_p0_days v_p0_now v_p0_started v_p0_ringSize v_p0_place f_p0_rules f_p0_of f_p0_holidays) hm hx hb hr rfl hlocks hAe hQ hK (hw.sub [2, 0, 1, 3] (by decide) rfl) rfl d_B_has_145
                · refine lv_iload hx hb d_B_has_97 (lv_at hl 1 rfl) ?_
                  refine lv_aload_n hx hb d_B_has_99 rfl (lv_at hl 3 rfl) ?_
                  refine lv_lload hx hb d_B_has_100 (lv_at hl 0 rfl) ?_
                  obtain ⟨o8, h8, hm⟩ := zc_x hm
                  refine sg_ci0 (Sr := [[(q_p0_rules, .inl (cI, 21, .inl f_p0_rules))], [(q_p0_of, .inl (cI, 21, .inl f_p0_of))]]) (va_runV (As := [.long x5]) (rest := [.int x6]) ⟨hx, hb, hml, hown, hts⟩ (ct_B_isWork l dC dI cI cL cM cZ q_p0 q_p0_text q_p0_names q_p0_calendars q_p0_priorities q_p0_starts q_p0_estimates q_p0_many q_p0_newNames q_p0_numbers q_p0_newMany q_p0_needs q_p0_conditions q_p0_newNeeds q_p0_newConditions q_p0_needPlaces q_p0_rules q_p0_of q_p0_holidays q_p0_states q_p0_ran q_p0_sums q_p0_kept q_p0_startedJob q_p0_startedAt q_p0_ring q_p0_came q_p0_level q_p0_again q_p0_way q_p0_before q_p0_path v_p0_code v_p0_length v_p0_jobs v_p0_newJobs v_p0_made v_p0_days v_p0_now v_p0_started v_p0_ringSize v_p0_place f_p0_holidays x5 N o8 h8 _) (cwV 1 hts (gd_V wd_824 wd_826 ws_31 wd_10 wd_827) rfl rfl rfl (by decide +kernel) ⟨Nat.le_of_ble_eq_true rfl, Nat.le_of_ble_eq_true rfl⟩) (sg_preV (ci := 9) (q0 := 0) hK hNW hw [0, 3] rfl rfl rfl rfl) rfl rfl hl.1 rfl (lv_room (Nat.le_of_ble_eq_true rfl)) d_B_has_102 ⟨Nat.le_of_ble_eq_true rfl, Nat.le_of_ble_eq_true rfl⟩) hw hA [0, 3] [1, 2] rfl rfl rfl (by decide) (fun H locs hw => ?_)
                  have hw : wk (dC, dI) vwCl A s.heap [[(q_p0_rules, .inl (cI, 21, .inl f_p0_rules))], [(q_p0_of, .inl (cI, 21, .inl f_p0_of))], [(q_p0, .inr (9, [.int v_p0_code, .ref q_p0_text, .int v_p0_length, .int v_p0_jobs, .int v_p0_newJobs, .ref q_p0_names, .ref q_p0_calendars, .ref q_p0_priorities, .ref q_p0_starts, .ref q_p0_estimates, .ref q_p0_many, .ref q_p0_newNames, .ref q_p0_numbers, .ref q_p0_newMany, .ref q_p0_needs, .ref q_p0_conditions, .ref q_p0_newNeeds, .ref q_p0_newConditions, .ref q_p0_needPlaces, .ref q_p0_rules, .ref q_p0_of, .int v_p0_made, .ref q_p0_holidays, .int v_p0_days, .ref q_p0_states, .ref q_p0_ran, .ref q_p0_sums, .ref q_p0_kept, .long v_p0_now, .ref q_p0_startedJob, .ref q_p0_startedAt, .int v_p0_started, .ref q_p0_ring, .ref q_p0_came, .ref q_p0_level, .int v_p0_ringSize, .ref q_p0_again, .ref q_p0_way, .ref q_p0_before, .ref q_p0_path, .int v_p0_place]))], [(q_p0_holidays, .inl (cL, 100, .inr (.inl f_p0_holidays)))]] H locs := hw
                  refine bq_t (lv_if_eq (tgt := 112) hx hb d_B_has_105 (by decide)) hm (fun hm => ?_) (fun hm => ?_)
                  · refine lv_iconst (v := 0) hx hb d_B_has_112 (by decide) ?_
                    refine lv_iadd hx hb d_B_has_113 ?_
                    refine lv_istore (lv' := [(5, .int (x6 + (0 : Int32))), (6, .long x5), (4, .int (f_p0_of a1_x.toNatClampNeg)), (0, .ref q_p0), (2, .long a2_x)]) hx hb d_B_has_114 hl (by decide) rfl (fun ls hl => ?_)
                    refine lv_lload hx hb d_B_has_116 (lv_at hl 1 rfl) ?_
                    refine lv_lconst (v := 1) hx hb d_B_has_118 (by decide) ?_
                    refine lv_ladd hx hb d_B_has_119 ?_
                    refine lv_lstore (lv' := [(6, .long (x5 + (1 : Int64))), (5, .int (x6 + (0 : Int32))), (4, .int (f_p0_of a1_x.toNatClampNeg)), (0, .ref q_p0), (2, .long a2_x)]) hx hb d_B_has_120 hl (by decide) rfl (fun ls hl => ?_)
                    refine lv_goto (tgt := 90) hx hb d_B_has_122 (by decide) ?_
                    exact ih90 (x5 + (1 : Int64)) (x6 + (0 : Int32)) hm _ _ _ (hw.sub [2, 0, 1, 3] (by decide) rfl) hl
                  · refine lv_iconst (v := 1) hx hb d_B_has_108 (by decide) ?_
                    refine lv_goto (tgt := 113) hx hb d_B_has_109 (by decide) ?_
                    refine lv_iadd hx hb d_B_has_113 ?_
                    refine lv_istore (lv' := [(5, .int (x6 + (1 : Int32))), (6, .long x5), (4, .int (f_p0_of a1_x.toNatClampNeg)), (0, .ref q_p0), (2, .long a2_x)]) hx hb d_B_has_114 hl (by decide) rfl (fun ls hl => ?_)
                    refine lv_lload hx hb d_B_has_116 (lv_at hl 1 rfl) ?_
                    refine lv_lconst (v := 1) hx hb d_B_has_118 (by decide) ?_
                    refine lv_ladd hx hb d_B_has_119 ?_
                    refine lv_lstore (lv' := [(6, .long (x5 + (1 : Int64))), (5, .int (x6 + (1 : Int32))), (4, .int (f_p0_of a1_x.toNatClampNeg)), (0, .ref q_p0), (2, .long a2_x)]) hx hb d_B_has_120 hl (by decide) rfl (fun ls hl => ?_)
                    refine lv_goto (tgt := 90) hx hb d_B_has_122 (by decide) ?_
                    exact ih90 (x5 + (1 : Int64)) (x6 + (1 : Int32)) hm _ _ _ (hw.sub [2, 0, 1, 3] (by decide) rfl) hl
            exact L90 _ _ _ hm _ _ _ hw (lv_sub hl [0, 1, 2, 3, 5] rfl)
          · skip
            refine it_c hm (fun hc9 hm => ?_) (fun hc9 hm => ?_)
            · refine lv_tableIn (tgt := 146) hx hb d_B_has_34 (by rw [hc9]; decide) (by rw [hc9]; decide) (by rw [hc9]; rfl) (by decide) ?_
              refine lv_lload_n hx hb d_B_has_146 rfl (lv_at hl 3 rfl) ?_
              refine lv_ldc2 hx hb (v := 7) hown (hts _ wd_822) d_B_has_147 ?_
              refine lv_lrem hx hb d_B_has_150 (by decide) ?_
              refine lv_iload hx hb d_B_has_151 (lv_at hl 0 rfl) ?_
              refine lv_i2l hx hb d_B_has_153 rfl ?_
              refine W.lcmp hx hb d_B_has_154 ?_
              refine bq_n (lv_if_ne (tgt := 174) hx hb d_B_has_155 (by decide)) hm (fun hm => ?_) (fun hm => ?_)
              · refine lv_iconst (v := 0) hx hb d_B_has_174 (by decide) ?_
                exact so_zret (rf := fun z_ => z_) (Sf := fun z_ => sc_B_has cI cL cM cZ q_p0 q_p0_text q_p0_names q_p0_calendars q_p0_priorities q_p0_starts q_p0_estimates q_p0_many q_p0_newNames q_p0_numbers q_p0_newMany q_p0_needs q_p0_conditions q_p0_newNeeds q_p0_newConditions q_p0_needPlaces q_p0_rules q_p0_of q_p0_holidays q_p0_states q_p0_ran q_p0_sums q_p0_kept q_p0_startedJob q_p0_startedAt q_p0_ring q_p0_came q_p0_level q_p0_again q_p0_way q_p0_before q_p0_path v_p0_code v_p0_length v_p0_jobs v_p0_newJobs v_p0_made v_p0_days v_p0_now v_p0_started v_p0_ringSize v_p0_place f_p0_rules f_p0_of f_p0_holidays) hm hx hb hr rfl hlocks hAe hQ hK hw rfl d_B_has_175
              · refine lv_lload_n hx hb d_B_has_158 rfl (lv_at hl 3 rfl) ?_
                refine lv_ldc2 hx hb (v := 30) hown (hts _ wd_823) d_B_has_159 ?_
                refine lv_lrem hx hb d_B_has_162 (by decide) ?_
                refine lv_ldc2 hx hb (v := 22) hown (hts _ wd_829) d_B_has_163 ?_
                refine W.lcmp hx hb d_B_has_166 ?_
                refine bq_t (lv_if_le (tgt := 174) hx hb d_B_has_167 (by decide)) hm (fun hm => ?_) (fun hm => ?_)
                · refine lv_iconst (v := 0) hx hb d_B_has_174 (by decide) ?_
                  exact so_zret (rf := fun z_ => z_) (Sf := fun z_ => sc_B_has cI cL cM cZ q_p0 q_p0_text q_p0_names q_p0_calendars q_p0_priorities q_p0_starts q_p0_estimates q_p0_many q_p0_newNames q_p0_numbers q_p0_newMany q_p0_needs q_p0_conditions q_p0_newNeeds q_p0_newConditions q_p0_needPlaces q_p0_rules q_p0_of q_p0_holidays q_p0_states q_p0_ran q_p0_sums q_p0_kept q_p0_startedJob q_p0_startedAt q_p0_ring q_p0_came q_p0_level q_p0_again q_p0_way q_p0_before q_p0_path v_p0_code v_p0_length v_p0_jobs v_p0_newJobs v_p0_made v_p0_days v_p0_now v_p0_started v_p0_ringSize v_p0_place f_p0_rules f_p0_of f_p0_holidays) hm hx hb hr rfl hlocks hAe hQ hK hw rfl d_B_has_175
                · refine lv_iconst (v := 1) hx hb d_B_has_170 (by decide) ?_
                  refine lv_goto (tgt := 175) hx hb d_B_has_171 (by decide) ?_
                  exact so_zret (rf := fun z_ => z_) (Sf := fun z_ => sc_B_has cI cL cM cZ q_p0 q_p0_text q_p0_names q_p0_calendars q_p0_priorities q_p0_starts q_p0_estimates q_p0_many q_p0_newNames q_p0_numbers q_p0_newMany q_p0_needs q_p0_conditions q_p0_newNeeds q_p0_newConditions q_p0_needPlaces q_p0_rules q_p0_of q_p0_holidays q_p0_states q_p0_ran q_p0_sums q_p0_kept q_p0_startedJob q_p0_startedAt q_p0_ring q_p0_came q_p0_level q_p0_again q_p0_way q_p0_before q_p0_path v_p0_code v_p0_length v_p0_jobs v_p0_newJobs v_p0_made v_p0_days v_p0_now v_p0_started v_p0_ringSize v_p0_place f_p0_rules f_p0_of f_p0_holidays) hm hx hb hr rfl hlocks hAe hQ hK hw rfl d_B_has_175
            · skip
              refine lv_tableOut (tgt := 176) hx hb d_B_has_34 (by have mhc2 := i32_nk (0) (0) (by decide) hc2; have mhc3 := i32_nk (1) (1) (by decide) hc3; have mhc9 := i32_nk (2) (2) (by decide) hc9; omega) (by decide) ?_
              refine lv_aload_n hx hb d_B_has_176 rfl (lv_at hl 1 rfl) ?_
              refine lv_lload_n hx hb d_B_has_177 rfl (lv_at hl 3 rfl) ?_
              obtain ⟨o10, h10, hm⟩ := zc_x hm
              refine sg_ci0 (Sr := [[(q_p0_rules, .inl (cI, 21, .inl f_p0_rules))], [(q_p0_of, .inl (cI, 21, .inl f_p0_of))]]) (va_runV (As := [.long a2_x]) (rest := []) ⟨hx, hb, hml, hown, hts⟩ (ct_B_isWork l dC dI cI cL cM cZ q_p0 q_p0_text q_p0_names q_p0_calendars q_p0_priorities q_p0_starts q_p0_estimates q_p0_many q_p0_newNames q_p0_numbers q_p0_newMany q_p0_needs q_p0_conditions q_p0_newNeeds q_p0_newConditions q_p0_needPlaces q_p0_rules q_p0_of q_p0_holidays q_p0_states q_p0_ran q_p0_sums q_p0_kept q_p0_startedJob q_p0_startedAt q_p0_ring q_p0_came q_p0_level q_p0_again q_p0_way q_p0_before q_p0_path v_p0_code v_p0_length v_p0_jobs v_p0_newJobs v_p0_made v_p0_days v_p0_now v_p0_started v_p0_ringSize v_p0_place f_p0_holidays a2_x N o10 h10 _) (cwV 1 hts (gd_V wd_824 wd_826 ws_31 wd_10 wd_827) rfl rfl rfl (by decide +kernel) ⟨Nat.le_of_ble_eq_true rfl, Nat.le_of_ble_eq_true rfl⟩) (sg_preV (ci := 9) (q0 := 0) hK hNW hw [0, 3] rfl rfl rfl rfl) rfl rfl hl.1 rfl (lv_room (Nat.le_of_ble_eq_true rfl)) d_B_has_178 ⟨Nat.le_of_ble_eq_true rfl, Nat.le_of_ble_eq_true rfl⟩) hw hA [0, 3] [1, 2] rfl rfl rfl (by decide) (fun H locs hw => ?_)
              have hw : wk (dC, dI) vwCl A s.heap [[(q_p0_rules, .inl (cI, 21, .inl f_p0_rules))], [(q_p0_of, .inl (cI, 21, .inl f_p0_of))], [(q_p0, .inr (9, [.int v_p0_code, .ref q_p0_text, .int v_p0_length, .int v_p0_jobs, .int v_p0_newJobs, .ref q_p0_names, .ref q_p0_calendars, .ref q_p0_priorities, .ref q_p0_starts, .ref q_p0_estimates, .ref q_p0_many, .ref q_p0_newNames, .ref q_p0_numbers, .ref q_p0_newMany, .ref q_p0_needs, .ref q_p0_conditions, .ref q_p0_newNeeds, .ref q_p0_newConditions, .ref q_p0_needPlaces, .ref q_p0_rules, .ref q_p0_of, .int v_p0_made, .ref q_p0_holidays, .int v_p0_days, .ref q_p0_states, .ref q_p0_ran, .ref q_p0_sums, .ref q_p0_kept, .long v_p0_now, .ref q_p0_startedJob, .ref q_p0_startedAt, .int v_p0_started, .ref q_p0_ring, .ref q_p0_came, .ref q_p0_level, .int v_p0_ringSize, .ref q_p0_again, .ref q_p0_way, .ref q_p0_before, .ref q_p0_path, .int v_p0_place]))], [(q_p0_holidays, .inl (cL, 100, .inr (.inl f_p0_holidays)))]] H locs := hw
              refine bq_t (lv_if_eq (tgt := 202) hx hb d_B_has_181 (by decide)) hm (fun hm => ?_) (fun hm => ?_)
              · refine lv_iconst (v := 0) hx hb d_B_has_202 (by decide) ?_
                exact so_zret (rf := fun z_ => z_) (Sf := fun z_ => sc_B_has cI cL cM cZ q_p0 q_p0_text q_p0_names q_p0_calendars q_p0_priorities q_p0_starts q_p0_estimates q_p0_many q_p0_newNames q_p0_numbers q_p0_newMany q_p0_needs q_p0_conditions q_p0_newNeeds q_p0_newConditions q_p0_needPlaces q_p0_rules q_p0_of q_p0_holidays q_p0_states q_p0_ran q_p0_sums q_p0_kept q_p0_startedJob q_p0_startedAt q_p0_ring q_p0_came q_p0_level q_p0_again q_p0_way q_p0_before q_p0_path v_p0_code v_p0_length v_p0_jobs v_p0_newJobs v_p0_made v_p0_days v_p0_now v_p0_started v_p0_ringSize v_p0_place f_p0_rules f_p0_of f_p0_holidays) hm hx hb hr rfl hlocks hAe hQ hK (hw.sub [2, 0, 1, 3] (by decide) rfl) rfl d_B_has_203
              · refine lv_lload_n hx hb d_B_has_184 rfl (lv_at hl 3 rfl) ?_
                refine lv_ldc2 hx hb (v := 30) hown (hts _ wd_823) d_B_has_185 ?_
                refine lv_lrem hx hb d_B_has_188 (by decide) ?_
                refine lv_lconst (v := 1) hx hb d_B_has_189 (by decide) ?_
                refine lv_ladd hx hb d_B_has_190 ?_
                refine lv_iload hx hb d_B_has_191 (lv_at hl 0 rfl) ?_
                refine lv_i2l hx hb d_B_has_193 rfl ?_
                refine W.lcmp hx hb d_B_has_194 ?_
                refine bq_t (lv_if_eq (tgt := 202) hx hb d_B_has_195 (by decide)) hm (fun hm => ?_) (fun hm => ?_)
                · refine lv_iconst (v := 0) hx hb d_B_has_202 (by decide) ?_
                  exact so_zret (rf := fun z_ => z_) (Sf := fun z_ => sc_B_has cI cL cM cZ q_p0 q_p0_text q_p0_names q_p0_calendars q_p0_priorities q_p0_starts q_p0_estimates q_p0_many q_p0_newNames q_p0_numbers q_p0_newMany q_p0_needs q_p0_conditions q_p0_newNeeds q_p0_newConditions q_p0_needPlaces q_p0_rules q_p0_of q_p0_holidays q_p0_states q_p0_ran q_p0_sums q_p0_kept q_p0_startedJob q_p0_startedAt q_p0_ring q_p0_came q_p0_level q_p0_again q_p0_way q_p0_before q_p0_path v_p0_code v_p0_length v_p0_jobs v_p0_newJobs v_p0_made v_p0_days v_p0_now v_p0_started v_p0_ringSize v_p0_place f_p0_rules f_p0_of f_p0_holidays) hm hx hb hr rfl hlocks hAe hQ hK (hw.sub [2, 0, 1, 3] (by decide) rfl) rfl d_B_has_203
                · refine lv_iconst (v := 1) hx hb d_B_has_198 (by decide) ?_
                  refine lv_goto (tgt := 203) hx hb d_B_has_199 (by decide) ?_
                  exact so_zret (rf := fun z_ => z_) (Sf := fun z_ => sc_B_has cI cL cM cZ q_p0 q_p0_text q_p0_names q_p0_calendars q_p0_priorities q_p0_starts q_p0_estimates q_p0_many q_p0_newNames q_p0_numbers q_p0_newMany q_p0_needs q_p0_conditions q_p0_newNeeds q_p0_newConditions q_p0_needPlaces q_p0_rules q_p0_of q_p0_holidays q_p0_states q_p0_ran q_p0_sums q_p0_kept q_p0_startedJob q_p0_startedAt q_p0_ring q_p0_came q_p0_level q_p0_again q_p0_way q_p0_before q_p0_path v_p0_code v_p0_length v_p0_jobs v_p0_newJobs v_p0_made v_p0_days v_p0_now v_p0_started v_p0_ringSize v_p0_place f_p0_rules f_p0_of f_p0_holidays) hm hx hb hr rfl hlocks hAe hQ hK (hw.sub [2, 0, 1, 3] (by decide) rfl) rfl d_B_has_203
      · refine lv_iconst (v := 0) hx hb d_B_has_18 (by decide) ?_
        exact so_zret (rf := fun z_ => z_) (Sf := fun z_ => sc_B_has cI cL cM cZ q_p0 q_p0_text q_p0_names q_p0_calendars q_p0_priorities q_p0_starts q_p0_estimates q_p0_many q_p0_newNames q_p0_numbers q_p0_newMany q_p0_needs q_p0_conditions q_p0_newNeeds q_p0_newConditions q_p0_needPlaces q_p0_rules q_p0_of q_p0_holidays q_p0_states q_p0_ran q_p0_sums q_p0_kept q_p0_startedJob q_p0_startedAt q_p0_ring q_p0_came q_p0_level q_p0_again q_p0_way q_p0_before q_p0_path v_p0_code v_p0_length v_p0_jobs v_p0_newJobs v_p0_made v_p0_days v_p0_now v_p0_started v_p0_ringSize v_p0_place f_p0_rules f_p0_of f_p0_holidays) hm hx hb hr rfl hlocks hAe hQ hK hw rfl d_B_has_19
  · refine lv_iconst (v := 1) hx hb d_B_has_4 (by decide) ?_
    exact so_zret (rf := fun z_ => z_) (Sf := fun z_ => sc_B_has cI cL cM cZ q_p0 q_p0_text q_p0_names q_p0_calendars q_p0_priorities q_p0_starts q_p0_estimates q_p0_many q_p0_newNames q_p0_numbers q_p0_newMany q_p0_needs q_p0_conditions q_p0_newNeeds q_p0_newConditions q_p0_needPlaces q_p0_rules q_p0_of q_p0_holidays q_p0_states q_p0_ran q_p0_sums q_p0_kept q_p0_startedJob q_p0_startedAt q_p0_ring q_p0_came q_p0_level q_p0_again q_p0_way q_p0_before q_p0_path v_p0_code v_p0_length v_p0_jobs v_p0_newJobs v_p0_made v_p0_days v_p0_now v_p0_started v_p0_ringSize v_p0_place f_p0_rules f_p0_of f_p0_holidays) hm hx hb hr rfl hlocks hAe hQ hK hw rfl d_B_has_5
theorem d_B_next_0 : decode prog_11_method_22_code 0 = .ok (.aload_n 0, 1) := by decide +kernel
theorem d_B_next_1 : decode prog_11_method_22_code 1 = .ok (.iconst 0, 1) := by decide +kernel
theorem d_B_next_2 : decode prog_11_method_22_code 2 = .ok (.putfield 105, 3) := by decide +kernel
theorem d_B_next_5 : decode prog_11_method_22_code 5 = .ok (.lload_n 2, 1) := by decide +kernel
theorem d_B_next_6 : decode prog_11_method_22_code 6 = .ok (.lconst 0, 1) := by decide +kernel
theorem d_B_next_7 : decode prog_11_method_22_code 7 = .ok (.lcmp, 1) := by decide +kernel
theorem d_B_next_8 : decode prog_11_method_22_code 8 = .ok (.ifCond .lt 11, 3) := by decide +kernel
theorem d_B_next_11 : decode prog_11_method_22_code 11 = .ok (.lload_n 2, 1) := by decide +kernel
theorem d_B_next_12 : decode prog_11_method_22_code 12 = .ok (.ldc2_w 176, 3) := by decide +kernel
theorem d_B_next_15 : decode prog_11_method_22_code 15 = .ok (.lcmp, 1) := by decide +kernel
theorem d_B_next_16 : decode prog_11_method_22_code 16 = .ok (.ifCond .le 7, 3) := by decide +kernel
theorem d_B_next_19 : decode prog_11_method_22_code 19 = .ok (.ldc2_w 193, 3) := by decide +kernel
theorem d_B_next_22 : decode prog_11_method_22_code 22 = .ok (.lreturn, 1) := by decide +kernel
theorem d_B_next_23 : decode prog_11_method_22_code 23 = .ok (.lload_n 2, 1) := by decide +kernel
theorem d_B_next_24 : decode prog_11_method_22_code 24 = .ok (.lstore 4, 2) := by decide +kernel
theorem d_B_next_26 : decode prog_11_method_22_code 26 = .ok (.lload 4, 2) := by decide +kernel
theorem d_B_next_28 : decode prog_11_method_22_code 28 = .ok (.lload_n 2, 1) := by decide +kernel
theorem d_B_next_29 : decode prog_11_method_22_code 29 = .ok (.ldc2_w 195, 3) := by decide +kernel
theorem d_B_next_32 : decode prog_11_method_22_code 32 = .ok (.ladd, 1) := by decide +kernel
theorem d_B_next_33 : decode prog_11_method_22_code 33 = .ok (.lcmp, 1) := by decide +kernel
theorem d_B_next_34 : decode prog_11_method_22_code 34 = .ok (.ifCond .gt 25, 3) := by decide +kernel
theorem d_B_next_37 : decode prog_11_method_22_code 37 = .ok (.aload_n 0, 1) := by decide +kernel
theorem d_B_next_38 : decode prog_11_method_22_code 38 = .ok (.iload_n 1, 1) := by decide +kernel
theorem d_B_next_39 : decode prog_11_method_22_code 39 = .ok (.lload 4, 2) := by decide +kernel
theorem d_B_next_41 : decode prog_11_method_22_code 41 = .ok (.invokevirtual 197, 3) := by decide +kernel
theorem d_B_next_44 : decode prog_11_method_22_code 44 = .ok (.ifCond .eq 6, 3) := by decide +kernel
theorem d_B_next_47 : decode prog_11_method_22_code 47 = .ok (.lload 4, 2) := by decide +kernel
theorem d_B_next_49 : decode prog_11_method_22_code 49 = .ok (.lreturn, 1) := by decide +kernel
theorem d_B_next_50 : decode prog_11_method_22_code 50 = .ok (.lload 4, 2) := by decide +kernel
theorem d_B_next_52 : decode prog_11_method_22_code 52 = .ok (.lconst 1, 1) := by decide +kernel
theorem d_B_next_53 : decode prog_11_method_22_code 53 = .ok (.ladd, 1) := by decide +kernel
theorem d_B_next_54 : decode prog_11_method_22_code 54 = .ok (.lstore 4, 2) := by decide +kernel
theorem d_B_next_56 : decode prog_11_method_22_code 56 = .ok (.goto (-30), 3) := by decide +kernel
theorem d_B_next_59 : decode prog_11_method_22_code 59 = .ok (.ldc2_w 193, 3) := by decide +kernel
theorem d_B_next_62 : decode prog_11_method_22_code 62 = .ok (.lreturn, 1) := by decide +kernel
def md_B_next_F26 (v_p0_made : Int32) (v_p0_days : Int32) (f_p0_rules : Nat → Int32) (f_p0_of : Nat → Int32) (f_p0_holidays : Nat → Int64) (a1_x : Int32) (a2_x : Int64) (N : Nat) (rec26 : Int64 → Option (Int64 × Int32)) (x1 : Int64) : Option (Int64 × Int32) :=
  (if 0 < (lg_cmp x1 (a2_x + (400 : Int64))) then (some ((-1 : Int64), (0 : Int32))) else (zc (md_B_has N v_p0_made v_p0_days f_p0_rules f_p0_of f_p0_holidays a1_x x1) (fun o2 => (if o2 = 0 then (rec26 (x1 + (1 : Int64))) else (some (x1, (0 : Int32)))))))
def md_B_next (N : Nat) (v_p0_code : Int32) (v_p0_made : Int32) (v_p0_days : Int32) (f_p0_rules : Nat → Int32) (f_p0_of : Nat → Int32) (f_p0_holidays : Nat → Int64) (a1_x : Int32) (a2_x : Int64) : Option (Int64 × Int32) :=
  (if (lg_cmp a2_x (0 : Int64)) < 0 then (some ((-1 : Int64), (0 : Int32))) else (if (lg_cmp a2_x (1000000 : Int64)) ≤ 0 then (fx1 (md_B_next_F26 v_p0_made v_p0_days f_p0_rules f_p0_of f_p0_holidays a1_x a2_x N) N a2_x) else (some ((-1 : Int64), (0 : Int32)))))
abbrev sc_B_next (cI cL cM cZ : ClassId) (q_p0 q_p0_text q_p0_names q_p0_calendars q_p0_priorities q_p0_starts q_p0_estimates q_p0_many q_p0_newNames q_p0_numbers q_p0_newMany q_p0_needs q_p0_conditions q_p0_newNeeds q_p0_newConditions q_p0_needPlaces q_p0_rules q_p0_of q_p0_holidays q_p0_states q_p0_ran q_p0_sums q_p0_kept q_p0_startedJob q_p0_startedAt q_p0_ring q_p0_came q_p0_level q_p0_again q_p0_way q_p0_before q_p0_path : Nat) (v_p0_code : Int32) (v_p0_length : Int32) (v_p0_jobs : Int32) (v_p0_newJobs : Int32) (v_p0_made : Int32) (v_p0_days : Int32) (v_p0_now : Int64) (v_p0_started : Int32) (v_p0_ringSize : Int32) (v_p0_place : Int32) (f_p0_rules : Nat → Int32) (f_p0_of : Nat → Int32) (f_p0_holidays : Nat → Int64) : List va_W := [[(q_p0, .inr (9, [.int v_p0_code, .ref q_p0_text, .int v_p0_length, .int v_p0_jobs, .int v_p0_newJobs, .ref q_p0_names, .ref q_p0_calendars, .ref q_p0_priorities, .ref q_p0_starts, .ref q_p0_estimates, .ref q_p0_many, .ref q_p0_newNames, .ref q_p0_numbers, .ref q_p0_newMany, .ref q_p0_needs, .ref q_p0_conditions, .ref q_p0_newNeeds, .ref q_p0_newConditions, .ref q_p0_needPlaces, .ref q_p0_rules, .ref q_p0_of, .int v_p0_made, .ref q_p0_holidays, .int v_p0_days, .ref q_p0_states, .ref q_p0_ran, .ref q_p0_sums, .ref q_p0_kept, .long v_p0_now, .ref q_p0_startedJob, .ref q_p0_startedAt, .int v_p0_started, .ref q_p0_ring, .ref q_p0_came, .ref q_p0_level, .int v_p0_ringSize, .ref q_p0_again, .ref q_p0_way, .ref q_p0_before, .ref q_p0_path, .int v_p0_place]))], [(q_p0_rules, .inl (cI, 21, .inl f_p0_rules))], [(q_p0_of, .inl (cI, 21, .inl f_p0_of))], [(q_p0_holidays, .inl (cL, 100, .inr (.inl f_p0_holidays)))]]
abbrev rm_B_next : Room := { frames := 2, cells := 0, slots := 0, locals := 51 }
set_option maxHeartbeats 4000000 in
set_option maxRecDepth 100000 in
theorem ct_B_next (l : Launch) (dC : Nat → ClassId) (dI : Nat → Nat → Nat) (cI cL cM cZ : ClassId) (q_p0 q_p0_text q_p0_names q_p0_calendars q_p0_priorities q_p0_starts q_p0_estimates q_p0_many q_p0_newNames q_p0_numbers q_p0_newMany q_p0_needs q_p0_conditions q_p0_newNeeds q_p0_newConditions q_p0_needPlaces q_p0_rules q_p0_of q_p0_holidays q_p0_states q_p0_ran q_p0_sums q_p0_kept q_p0_startedJob q_p0_startedAt q_p0_ring q_p0_came q_p0_level q_p0_again q_p0_way q_p0_before q_p0_path : Nat) (v_p0_code : Int32) (v_p0_length : Int32) (v_p0_jobs : Int32) (v_p0_newJobs : Int32) (v_p0_made : Int32) (v_p0_days : Int32) (v_p0_now : Int64) (v_p0_started : Int32) (v_p0_ringSize : Int32) (v_p0_place : Int32) (f_p0_rules : Nat → Int32) (f_p0_of : Nat → Int32) (f_p0_holidays : Nat → Int64) (a1_x : Int32) (a2_x : Int64) (N : Nat) (o : Int64 × Int32) (hm : md_B_next N v_p0_code v_p0_made v_p0_days f_p0_rules f_p0_of f_p0_holidays a1_x a2_x = some o) : ∀ sz : Nat, Met l y_B_next ws_B_next rm_B_next (cP (dC, dI) vwCl [(cI, .int), (cL, .long), (cM, .array .int), (cZ, .boolean)] [.ref q_p0, .int a1_x, .long a2_x] sz (sc_B_next cI cL cM cZ q_p0 q_p0_text q_p0_names q_p0_calendars q_p0_priorities q_p0_starts q_p0_estimates q_p0_many q_p0_newNames q_p0_numbers q_p0_newMany q_p0_needs q_p0_conditions q_p0_newNeeds q_p0_newConditions q_p0_needPlaces q_p0_rules q_p0_of q_p0_holidays q_p0_states q_p0_ran q_p0_sums q_p0_kept q_p0_startedJob q_p0_startedAt q_p0_ring q_p0_came q_p0_level q_p0_again q_p0_way q_p0_before q_p0_path v_p0_code v_p0_length v_p0_jobs v_p0_newJobs v_p0_made v_p0_days v_p0_now v_p0_started v_p0_ringSize v_p0_place f_p0_rules f_p0_of f_p0_holidays)) (cQl (dC, dI) vwCl [(cI, .int), (cL, .long), (cM, .array .int), (cZ, .boolean)] sz (sc_B_next cI cL cM cZ q_p0 q_p0_text q_p0_names q_p0_calendars q_p0_priorities q_p0_starts q_p0_estimates q_p0_many q_p0_newNames q_p0_numbers q_p0_newMany q_p0_needs q_p0_conditions q_p0_newNeeds q_p0_newConditions q_p0_needPlaces q_p0_rules q_p0_of q_p0_holidays q_p0_states q_p0_ran q_p0_sums q_p0_kept q_p0_startedJob q_p0_startedAt q_p0_ring q_p0_came q_p0_level q_p0_again q_p0_way q_p0_before q_p0_path v_p0_code v_p0_length v_p0_jobs v_p0_newJobs v_p0_made v_p0_days v_p0_now v_p0_started v_p0_ringSize v_p0_place f_p0_rules f_p0_of f_p0_holidays) o.1 (sc_B_next cI cL cM cZ q_p0 q_p0_text q_p0_names q_p0_calendars q_p0_priorities q_p0_starts q_p0_estimates q_p0_many q_p0_newNames q_p0_numbers q_p0_newMany q_p0_needs q_p0_conditions q_p0_newNeeds q_p0_newConditions q_p0_needPlaces q_p0_rules q_p0_of q_p0_holidays q_p0_states q_p0_ran q_p0_sums q_p0_kept q_p0_startedJob q_p0_startedAt q_p0_ring q_p0_came q_p0_level q_p0_again q_p0_way q_p0_before q_p0_path o.2 v_p0_length v_p0_jobs v_p0_newJobs v_p0_made v_p0_days v_p0_now v_p0_started v_p0_ringSize v_p0_place f_p0_rules f_p0_of f_p0_holidays)) 0 0 (va_A ((sc_B_next cI cL cM cZ q_p0 q_p0_text q_p0_names q_p0_calendars q_p0_priorities q_p0_starts q_p0_estimates q_p0_many q_p0_newNames q_p0_numbers q_p0_newMany q_p0_needs q_p0_conditions q_p0_newNeeds q_p0_newConditions q_p0_needPlaces q_p0_rules q_p0_of q_p0_holidays q_p0_states q_p0_ran q_p0_sums q_p0_kept q_p0_startedJob q_p0_startedAt q_p0_ring q_p0_came q_p0_level q_p0_again q_p0_way q_p0_before q_p0_path v_p0_code v_p0_length v_p0_jobs v_p0_newJobs v_p0_made v_p0_days v_p0_now v_p0_started v_p0_ringSize v_p0_place f_p0_rules f_p0_of f_p0_holidays)).flatten sz) := by
  refine sg_met (fun sz => cQl (dC, dI) vwCl [(cI, .int), (cL, .long), (cM, .array .int), (cZ, .boolean)] sz (sc_B_next cI cL cM cZ q_p0 q_p0_text q_p0_names q_p0_calendars q_p0_priorities q_p0_starts q_p0_estimates q_p0_many q_p0_newNames q_p0_numbers q_p0_newMany q_p0_needs q_p0_conditions q_p0_newNeeds q_p0_newConditions q_p0_needPlaces q_p0_rules q_p0_of q_p0_holidays q_p0_states q_p0_ran q_p0_sums q_p0_kept q_p0_startedJob q_p0_startedAt q_p0_ring q_p0_came q_p0_level q_p0_again q_p0_way q_p0_before q_p0_path v_p0_code v_p0_length v_p0_jobs v_p0_newJobs v_p0_made v_p0_days v_p0_now v_p0_started v_p0_ringSize v_p0_place f_p0_rules f_p0_of f_p0_holidays) o.1 (sc_B_next cI cL cM cZ q_p0 q_p0_text q_p0_names q_p0_calendars q_p0_priorities q_p0_starts q_p0_estimates q_p0_many q_p0_newNames q_p0_numbers q_p0_newMany q_p0_needs q_p0_conditions q_p0_newNeeds q_p0_newConditions q_p0_needPlaces q_p0_rules q_p0_of q_p0_holidays q_p0_states q_p0_ran q_p0_sums q_p0_kept q_p0_startedJob q_p0_startedAt q_p0_ring q_p0_came q_p0_level q_p0_again q_p0_way q_p0_before q_p0_path o.2 v_p0_length v_p0_jobs v_p0_newJobs v_p0_made v_p0_days v_p0_now v_p0_started v_p0_ringSize v_p0_place f_p0_rules f_p0_of f_p0_holidays)) (by decide) (Nat.le_of_ble_eq_true rfl) ?_
  intro p e s m args below meth c A Q ls hx hb hr hts hown hlocks hml hname hK hNW hA hAe hQ hw hl
  have hl : lv_has ls 6 [(0, .ref q_p0), (1, .int a1_x), (2, .long a2_x)] := hl
  have hw : wk (dC, dI) vwCl A s.heap [[(q_p0, .inr (9, [.int v_p0_code, .ref q_p0_text, .int v_p0_length, .int v_p0_jobs, .int v_p0_newJobs, .ref q_p0_names, .ref q_p0_calendars, .ref q_p0_priorities, .ref q_p0_starts, .ref q_p0_estimates, .ref q_p0_many, .ref q_p0_newNames, .ref q_p0_numbers, .ref q_p0_newMany, .ref q_p0_needs, .ref q_p0_conditions, .ref q_p0_newNeeds, .ref q_p0_newConditions, .ref q_p0_needPlaces, .ref q_p0_rules, .ref q_p0_of, .int v_p0_made, .ref q_p0_holidays, .int v_p0_days, .ref q_p0_states, .ref q_p0_ran, .ref q_p0_sums, .ref q_p0_kept, .long v_p0_now, .ref q_p0_startedJob, .ref q_p0_startedAt, .int v_p0_started, .ref q_p0_ring, .ref q_p0_came, .ref q_p0_level, .int v_p0_ringSize, .ref q_p0_again, .ref q_p0_way, .ref q_p0_before, .ref q_p0_path, .int v_p0_place]))], [(q_p0_rules, .inl (cI, 21, .inl f_p0_rules))], [(q_p0_of, .inl (cI, 21, .inl f_p0_of))], [(q_p0_holidays, .inl (cL, 100, .inr (.inl f_p0_holidays)))]] s.heap [] := hw
  unfold md_B_next at hm
  refine lv_aload_n hx hb d_B_next_0 rfl (lv_at hl 0 rfl) ?_
  refine lv_iconst (v := 0) hx hb d_B_next_1 (by decide) ?_
  refine sg_put (D := (dC, dI)) (ci := 9) (v := .int (0 : Int32)) (ty := .int) (C := "JobNetsModel") (T := T_9) (N := 41) (S1 := [[(q_p0, .inr (9, [.int (0 : Int32), .ref q_p0_text, .int v_p0_length, .int v_p0_jobs, .int v_p0_newJobs, .ref q_p0_names, .ref q_p0_calendars, .ref q_p0_priorities, .ref q_p0_starts, .ref q_p0_estimates, .ref q_p0_many, .ref q_p0_newNames, .ref q_p0_numbers, .ref q_p0_newMany, .ref q_p0_needs, .ref q_p0_conditions, .ref q_p0_newNeeds, .ref q_p0_newConditions, .ref q_p0_needPlaces, .ref q_p0_rules, .ref q_p0_of, .int v_p0_made, .ref q_p0_holidays, .int v_p0_days, .ref q_p0_states, .ref q_p0_ran, .ref q_p0_sums, .ref q_p0_kept, .long v_p0_now, .ref q_p0_startedJob, .ref q_p0_startedAt, .int v_p0_started, .ref q_p0_ring, .ref q_p0_came, .ref q_p0_level, .int v_p0_ringSize, .ref q_p0_again, .ref q_p0_way, .ref q_p0_before, .ref q_p0_path, .int v_p0_place]))], [(q_p0_rules, .inl (cI, 21, .inl f_p0_rules))], [(q_p0_of, .inl (cI, 21, .inl f_p0_of))], [(q_p0_holidays, .inl (cL, 100, .inr (.inl f_p0_holidays)))]]) hx hb hts hin_9 ty_9 tok_9 nd_9 hown hK hw 0 rfl rfl 0 (by decide) (hts _ wd_616) rfl rfl (by decide +kernel) rfl rfl (Nat.le_of_ble_eq_true rfl) rfl d_B_next_2 (fun H locs hw => ?_)
  refine lv_lload_n hx hb d_B_next_5 rfl (lv_at hl 2 rfl) ?_
  refine lv_lconst (v := 0) hx hb d_B_next_6 (by decide) ?_
  refine W.lcmp hx hb d_B_next_7 ?_
  refine bq_t (lv_if_lt (tgt := 19) hx hb d_B_next_8 (by decide)) hm (fun hm => ?_) (fun hm => ?_)
  · refine lv_ldc2 hx hb (v := -1) hown (hts _ wd_816) d_B_next_19 ?_
    exact so_lret (rf := fun z_ => z_.1) (Sf := fun z_ => sc_B_next cI cL cM cZ q_p0 q_p0_text q_p0_names q_p0_calendars q_p0_priorities q_p0_starts q_p0_estimates q_p0_many q_p0_newNames q_p0_numbers q_p0_newMany q_p0_needs q_p0_conditions q_p0_newNeeds q_p0_newConditions q_p0_needPlaces q_p0_rules q_p0_of q_p0_holidays q_p0_states q_p0_ran q_p0_sums q_p0_kept q_p0_startedJob q_p0_startedAt q_p0_ring q_p0_came q_p0_level q_p0_again q_p0_way q_p0_before q_p0_path z_.2 v_p0_length v_p0_jobs v_p0_newJobs v_p0_made v_p0_days v_p0_now v_p0_started v_p0_ringSize v_p0_place f_p0_rules f_p0_of f_p0_holidays) hm hx hb hr hlocks hAe hQ hK hw rfl d_B_next_22
  · refine lv_lload_n hx hb d_B_next_11 rfl (lv_at hl 2 rfl) ?_
    refine lv_ldc2 hx hb (v := 1000000) hown (hts _ wd_811) d_B_next_12 ?_
    refine W.lcmp hx hb d_B_next_15 ?_
    refine bq_t (lv_if_le (tgt := 23) hx hb d_B_next_16 (by decide)) hm (fun hm => ?_) (fun hm => ?_)
    · refine lv_lload_n hx hb d_B_next_23 rfl (lv_at hl 2 rfl) ?_
      refine lv_lstore (lv' := [(4, .long a2_x), (0, .ref q_p0), (1, .int a1_x), (2, .long a2_x)]) hx hb d_B_next_24 hl (by decide) rfl (fun ls hl => ?_)
      obtain ⟨Fn26, hFn26, hm⟩ := fx1_x hm
      have L26 : ∀ (n : Nat) (x1 : Int64), fx1 Fn26 n x1 = some o → ∀ (H : Heap) (locs : List Loc) (ls : Array Slot), wk (dC, dI) vwCl A s.heap [[(q_p0, .inr (9, [.int (0 : Int32), .ref q_p0_text, .int v_p0_length, .int v_p0_jobs, .int v_p0_newJobs, .ref q_p0_names, .ref q_p0_calendars, .ref q_p0_priorities, .ref q_p0_starts, .ref q_p0_estimates, .ref q_p0_many, .ref q_p0_newNames, .ref q_p0_numbers, .ref q_p0_newMany, .ref q_p0_needs, .ref q_p0_conditions, .ref q_p0_newNeeds, .ref q_p0_newConditions, .ref q_p0_needPlaces, .ref q_p0_rules, .ref q_p0_of, .int v_p0_made, .ref q_p0_holidays, .int v_p0_days, .ref q_p0_states, .ref q_p0_ran, .ref q_p0_sums, .ref q_p0_kept, .long v_p0_now, .ref q_p0_startedJob, .ref q_p0_startedAt, .int v_p0_started, .ref q_p0_ring, .ref q_p0_came, .ref q_p0_level, .int v_p0_ringSize, .ref q_p0_again, .ref q_p0_way, .ref q_p0_before, .ref q_p0_path, .int v_p0_place]))], [(q_p0_rules, .inl (cI, 21, .inl f_p0_rules))], [(q_p0_of, .inl (cI, 21, .inl f_p0_of))], [(q_p0_holidays, .inl (cL, 100, .inr (.inl f_p0_holidays)))]] H locs → lv_has ls 6 [(4, .long x1), (0, .ref q_p0), (1, .int a1_x), (2, .long a2_x)] → W p l e rm_B_next s m args below meth c H locs 0 0 Q (F0 m 26 ls []) := by
        intro n
        induction n with
        | zero => intro x1 hm; exact (fx1_0 hm).elim
        | succ n ih26 =>
          intro x1 hm H locs ls hw hl
          have hm := fx1_s hFn26 hm
          unfold md_B_next_F26 at hm
          refine lv_lload hx hb d_B_next_26 (lv_at hl 0 rfl) ?_
          refine lv_lload_n hx hb d_B_next_28 rfl (lv_at hl 3 rfl) ?_
          refine lv_ldc2 hx hb (v := 400) hown (hts _ wd_817) d_B_next_29 ?_
          refine lv_ladd hx hb d_B_next_32 ?_
          refine W.lcmp hx hb d_B_next_33 ?_
          refine bq_t (lv_if_gt (tgt := 59) hx hb d_B_next_34 (by decide)) hm (fun hm => ?_) (fun hm => ?_)
          · refine lv_ldc2 hx hb (v := -1) hown (hts _ wd_816) d_B_next_59 ?_
            exact so_lret (rf := fun z_ => z_.1) (Sf := fun z_ => sc_B_next cI cL cM cZ q_p0 q_p0_text q_p0_names q_p0_calendars q_p0_priorities q_p0_starts q_p0_estimates q_p0_many q_p0_newNames q_p0_numbers q_p0_newMany q_p0_needs q_p0_conditions q_p0_newNeeds q_p0_newConditions q_p0_needPlaces q_p0_rules q_p0_of q_p0_holidays q_p0_states q_p0_ran q_p0_sums q_p0_kept q_p0_startedJob q_p0_startedAt q_p0_ring q_p0_came q_p0_level q_p0_again q_p0_way q_p0_before q_p0_path z_.2 v_p0_length v_p0_jobs v_p0_newJobs v_p0_made v_p0_days v_p0_now v_p0_started v_p0_ringSize v_p0_place f_p0_rules f_p0_of f_p0_holidays) hm hx hb hr hlocks hAe hQ hK hw rfl d_B_next_62
          · refine lv_aload_n hx hb d_B_next_37 rfl (lv_at hl 1 rfl) ?_
            refine lv_iload_n hx hb d_B_next_38 rfl (lv_at hl 2 rfl) ?_
            refine lv_lload hx hb d_B_next_39 (lv_at hl 0 rfl) ?_
            obtain ⟨o2, h2, hm⟩ := zc_x hm
            refine sg_ci0 (Sr := []) (va_runV (As := [.int a1_x, .long x1]) (rest := []) ⟨hx, hb, hml, hown, hts⟩ (ct_B_has l dC dI cI cL cM cZ q_p0 q_p0_text q_p0_names q_p0_calendars q_p0_priorities q_p0_starts q_p0_estimates q_p0_many q_p0_newNames q_p0_numbers q_p0_newMany q_p0_needs q_p0_conditions q_p0_newNeeds q_p0_newConditions q_p0_needPlaces q_p0_rules q_p0_of q_p0_holidays q_p0_states q_p0_ran q_p0_sums q_p0_kept q_p0_startedJob q_p0_startedAt q_p0_ring q_p0_came q_p0_level q_p0_again q_p0_way q_p0_before q_p0_path (0 : Int32) v_p0_length v_p0_jobs v_p0_newJobs v_p0_made v_p0_days v_p0_now v_p0_started v_p0_ringSize v_p0_place f_p0_rules f_p0_of f_p0_holidays a1_x x1 N o2 h2 _) (cwV 2 hts (gd_V wd_818 wd_820 ws_30 wd_10 wd_821) rfl rfl rfl (by decide +kernel) ⟨Nat.le_of_ble_eq_true rfl, Nat.le_of_ble_eq_true rfl⟩) (sg_preV (ci := 9) (q0 := 0) hK hNW hw [0, 1, 2, 3] rfl rfl rfl rfl) rfl rfl hl.1 rfl (lv_room (Nat.le_of_ble_eq_true rfl)) d_B_next_41 ⟨Nat.le_of_ble_eq_true rfl, Nat.le_of_ble_eq_true rfl⟩) hw hA [0, 1, 2, 3] [] rfl rfl rfl (by decide) (fun H locs hw => ?_)
            have hw : wk (dC, dI) vwCl A s.heap [[(q_p0, .inr (9, [.int (0 : Int32), .ref q_p0_text, .int v_p0_length, .int v_p0_jobs, .int v_p0_newJobs, .ref q_p0_names, .ref q_p0_calendars, .ref q_p0_priorities, .ref q_p0_starts, .ref q_p0_estimates, .ref q_p0_many, .ref q_p0_newNames, .ref q_p0_numbers, .ref q_p0_newMany, .ref q_p0_needs, .ref q_p0_conditions, .ref q_p0_newNeeds, .ref q_p0_newConditions, .ref q_p0_needPlaces, .ref q_p0_rules, .ref q_p0_of, .int v_p0_made, .ref q_p0_holidays, .int v_p0_days, .ref q_p0_states, .ref q_p0_ran, .ref q_p0_sums, .ref q_p0_kept, .long v_p0_now, .ref q_p0_startedJob, .ref q_p0_startedAt, .int v_p0_started, .ref q_p0_ring, .ref q_p0_came, .ref q_p0_level, .int v_p0_ringSize, .ref q_p0_again, .ref q_p0_way, .ref q_p0_before, .ref q_p0_path, .int v_p0_place]))], [(q_p0_rules, .inl (cI, 21, .inl f_p0_rules))], [(q_p0_of, .inl (cI, 21, .inl f_p0_of))], [(q_p0_holidays, .inl (cL, 100, .inr (.inl f_p0_holidays)))]] H locs := hw
            refine bq_t (lv_if_eq (tgt := 50) hx hb d_B_next_44 (by decide)) hm (fun hm => ?_) (fun hm => ?_)
            · refine lv_lload hx hb d_B_next_50 (lv_at hl 0 rfl) ?_
              refine lv_lconst (v := 1) hx hb d_B_next_52 (by decide) ?_
              refine lv_ladd hx hb d_B_next_53 ?_
              refine lv_lstore (lv' := [(4, .long (x1 + (1 : Int64))), (0, .ref q_p0), (1, .int a1_x), (2, .long a2_x)]) hx hb d_B_next_54 hl (by decide) rfl (fun ls hl => ?_)
              refine lv_goto (tgt := 26) hx hb d_B_next_56 (by decide) ?_
              exact ih26 (x1 + (1 : Int64)) hm _ _ _ hw hl
            · refine lv_lload hx hb d_B_next_47 (lv_at hl 0 rfl) ?_
              exact so_lret (rf := fun z_ => z_.1) (Sf := fun z_ => sc_B_next cI cL cM cZ q_p0 q_p0_text q_p0_names q_p0_calendars q_p0_priorities q_p0_starts q_p0_estimates q_p0_many q_p0_newNames q_p0_numbers q_p0_newMany q_p0_needs q_p0_conditions q_p0_newNeeds q_p0_newConditions q_p0_needPlaces q_p0_rules q_p0_of q_p0_holidays q_p0_states q_p0_ran q_p0_sums q_p0_kept q_p0_startedJob q_p0_startedAt q_p0_ring q_p0_came q_p0_level q_p0_again q_p0_way q_p0_before q_p0_path z_.2 v_p0_length v_p0_jobs v_p0_newJobs v_p0_made v_p0_days v_p0_now v_p0_started v_p0_ringSize v_p0_place f_p0_rules f_p0_of f_p0_holidays) hm hx hb hr hlocks hAe hQ hK hw rfl d_B_next_49
      exact L26 _ _ hm _ _ _ hw hl
    · refine lv_ldc2 hx hb (v := -1) hown (hts _ wd_816) d_B_next_19 ?_
      exact so_lret (rf := fun z_ => z_.1) (Sf := fun z_ => sc_B_next cI cL cM cZ q_p0 q_p0_text q_p0_names q_p0_calendars q_p0_priorities q_p0_starts q_p0_estimates q_p0_many q_p0_newNames q_p0_numbers q_p0_newMany q_p0_needs q_p0_conditions q_p0_newNeeds q_p0_newConditions q_p0_needPlaces q_p0_rules q_p0_of q_p0_holidays q_p0_states q_p0_ran q_p0_sums q_p0_kept q_p0_startedJob q_p0_startedAt q_p0_ring q_p0_came q_p0_level q_p0_again q_p0_way q_p0_before q_p0_path z_.2 v_p0_length v_p0_jobs v_p0_newJobs v_p0_made v_p0_days v_p0_now v_p0_started v_p0_ringSize v_p0_place f_p0_rules f_p0_of f_p0_holidays) hm hx hb hr hlocks hAe hQ hK hw rfl d_B_next_22
