theorem d_B_mean_0 : decode prog_11_method_32_code 0 = .ok (.aload_n 0, 1) := by decide +kernel
theorem d_B_mean_1 : decode prog_11_method_32_code 1 = .ok (.iload_n 1, 1) := by decide +kernel
theorem d_B_mean_2 : decode prog_11_method_32_code 2 = .ok (.invokevirtual 170, 3) := by decide +kernel
theorem d_B_mean_5 : decode prog_11_method_32_code 5 = .ok (.ifCond .eq 16, 3) := by decide +kernel
theorem d_B_mean_8 : decode prog_11_method_32_code 8 = .ok (.iload_n 2, 1) := by decide +kernel
theorem d_B_mean_9 : decode prog_11_method_32_code 9 = .ok (.ifCond .lt 12, 3) := by decide +kernel
theorem d_B_mean_12 : decode prog_11_method_32_code 12 = .ok (.iload_n 2, 1) := by decide +kernel
theorem d_B_mean_13 : decode prog_11_method_32_code 13 = .ok (.iconst 1, 1) := by decide +kernel
theorem d_B_mean_14 : decode prog_11_method_32_code 14 = .ok (.if_icmp .gt 7, 3) := by decide +kernel
theorem d_B_mean_17 : decode prog_11_method_32_code 17 = .ok (.iconst 1, 1) := by decide +kernel
theorem d_B_mean_18 : decode prog_11_method_32_code 18 = .ok (.goto 4, 3) := by decide +kernel
theorem d_B_mean_21 : decode prog_11_method_32_code 21 = .ok (.iconst 0, 1) := by decide +kernel
theorem d_B_mean_22 : decode prog_11_method_32_code 22 = .ok (.istore_n 3, 1) := by decide +kernel
theorem d_B_mean_23 : decode prog_11_method_32_code 23 = .ok (.aload_n 0, 1) := by decide +kernel
theorem d_B_mean_24 : decode prog_11_method_32_code 24 = .ok (.iload_n 3, 1) := by decide +kernel
theorem d_B_mean_25 : decode prog_11_method_32_code 25 = .ok (.ifCond .eq 16, 3) := by decide +kernel
theorem d_B_mean_28 : decode prog_11_method_32_code 28 = .ok (.aload_n 0, 1) := by decide +kernel
theorem d_B_mean_29 : decode prog_11_method_32_code 29 = .ok (.getfield 74, 3) := by decide +kernel
theorem d_B_mean_32 : decode prog_11_method_32_code 32 = .ok (.iload_n 1, 1) := by decide +kernel
theorem d_B_mean_33 : decode prog_11_method_32_code 33 = .ok (.iaload, 1) := by decide +kernel
theorem d_B_mean_34 : decode prog_11_method_32_code 34 = .ok (.ifCond .ne 7, 3) := by decide +kernel
theorem d_B_mean_37 : decode prog_11_method_32_code 37 = .ok (.iconst 1, 1) := by decide +kernel
theorem d_B_mean_38 : decode prog_11_method_32_code 38 = .ok (.goto 4, 3) := by decide +kernel
theorem d_B_mean_41 : decode prog_11_method_32_code 41 = .ok (.iconst 0, 1) := by decide +kernel
theorem d_B_mean_42 : decode prog_11_method_32_code 42 = .ok (.putfield 105, 3) := by decide +kernel
theorem d_B_mean_45 : decode prog_11_method_32_code 45 = .ok (.iload_n 3, 1) := by decide +kernel
theorem d_B_mean_46 : decode prog_11_method_32_code 46 = .ok (.ifCond .ne 7, 3) := by decide +kernel
theorem d_B_mean_49 : decode prog_11_method_32_code 49 = .ok (.ldc2_w 193, 3) := by decide +kernel
theorem d_B_mean_52 : decode prog_11_method_32_code 52 = .ok (.lreturn, 1) := by decide +kernel
theorem d_B_mean_53 : decode prog_11_method_32_code 53 = .ok (.aload_n 0, 1) := by decide +kernel
theorem d_B_mean_54 : decode prog_11_method_32_code 54 = .ok (.getfield 105, 3) := by decide +kernel
theorem d_B_mean_57 : decode prog_11_method_32_code 57 = .ok (.ifCond .le 7, 3) := by decide +kernel
theorem d_B_mean_60 : decode prog_11_method_32_code 60 = .ok (.lconst 0, 1) := by decide +kernel
theorem d_B_mean_61 : decode prog_11_method_32_code 61 = .ok (.goto 38, 3) := by decide +kernel
theorem d_B_mean_64 : decode prog_11_method_32_code 64 = .ok (.iload_n 2, 1) := by decide +kernel
theorem d_B_mean_65 : decode prog_11_method_32_code 65 = .ok (.ifCond .ne 20, 3) := by decide +kernel
theorem d_B_mean_68 : decode prog_11_method_32_code 68 = .ok (.aload_n 0, 1) := by decide +kernel
theorem d_B_mean_69 : decode prog_11_method_32_code 69 = .ok (.getfield 71, 3) := by decide +kernel
theorem d_B_mean_72 : decode prog_11_method_32_code 72 = .ok (.iload_n 1, 1) := by decide +kernel
theorem d_B_mean_73 : decode prog_11_method_32_code 73 = .ok (.laload, 1) := by decide +kernel
theorem d_B_mean_74 : decode prog_11_method_32_code 74 = .ok (.aload_n 0, 1) := by decide +kernel
theorem d_B_mean_75 : decode prog_11_method_32_code 75 = .ok (.getfield 74, 3) := by decide +kernel
theorem d_B_mean_78 : decode prog_11_method_32_code 78 = .ok (.iload_n 1, 1) := by decide +kernel
theorem d_B_mean_79 : decode prog_11_method_32_code 79 = .ok (.iaload, 1) := by decide +kernel
theorem d_B_mean_80 : decode prog_11_method_32_code 80 = .ok (.i2l, 1) := by decide +kernel
theorem d_B_mean_81 : decode prog_11_method_32_code 81 = .ok (.ldiv, 1) := by decide +kernel
theorem d_B_mean_82 : decode prog_11_method_32_code 82 = .ok (.goto 17, 3) := by decide +kernel
theorem d_B_mean_85 : decode prog_11_method_32_code 85 = .ok (.aload_n 0, 1) := by decide +kernel
theorem d_B_mean_86 : decode prog_11_method_32_code 86 = .ok (.getfield 71, 3) := by decide +kernel
theorem d_B_mean_89 : decode prog_11_method_32_code 89 = .ok (.iload_n 1, 1) := by decide +kernel
theorem d_B_mean_90 : decode prog_11_method_32_code 90 = .ok (.laload, 1) := by decide +kernel
theorem d_B_mean_91 : decode prog_11_method_32_code 91 = .ok (.aload_n 0, 1) := by decide +kernel
theorem d_B_mean_92 : decode prog_11_method_32_code 92 = .ok (.getfield 74, 3) := by decide +kernel
theorem d_B_mean_95 : decode prog_11_method_32_code 95 = .ok (.iload_n 1, 1) := by decide +kernel
theorem d_B_mean_96 : decode prog_11_method_32_code 96 = .ok (.iaload, 1) := by decide +kernel
theorem d_B_mean_97 : decode prog_11_method_32_code 97 = .ok (.i2l, 1) := by decide +kernel
theorem d_B_mean_98 : decode prog_11_method_32_code 98 = .ok (.lrem, 1) := by decide +kernel
theorem d_B_mean_99 : decode prog_11_method_32_code 99 = .ok (.lreturn, 1) := by decide +kernel
def md_B_mean (N : Nat) (v_p0_code : Int32) (v_p0_jobs : Int32) (f_p0_sums : Nat → Int64) (f_p0_kept : Nat → Int32) (a1_x : Int32) (a2_x : Int32) : Option (Int64 × Int32) :=
  (zc (md_B_isJob N v_p0_jobs a1_x) (fun o1 => (zl (fun (x2 : Int32) => (zl (fun (x3 : Int32) => (if x2 = 0 then (some ((-1 : Int64), x3)) else (if x3 ≤ 0 then (if a2_x = 0 then (if sg_in a1_x 27 = true then (if sg_in a1_x 27 = true then (if ¬ ((f_p0_kept a1_x.toNatClampNeg).toInt64) = (0 : Int64) then (some ((f_p0_sums a1_x.toNatClampNeg) / ((f_p0_kept a1_x.toNatClampNeg).toInt64), x3)) else none) else none) else none) else (if sg_in a1_x 27 = true then (if sg_in a1_x 27 = true then (if ¬ ((f_p0_kept a1_x.toNatClampNeg).toInt64) = (0 : Int64) then (some ((f_p0_sums a1_x.toNatClampNeg) - (f_p0_sums a1_x.toNatClampNeg) / ((f_p0_kept a1_x.toNatClampNeg).toInt64) * ((f_p0_kept a1_x.toNatClampNeg).toInt64), x3)) else none) else none) else none)) else (some ((0 : Int64), x3))))) (fun k42 => (zl (k42 (0 : Int32)) (fun k41 => (if x2 = 0 then (k41) else (if sg_in a1_x 27 = true then (if (f_p0_kept a1_x.toNatClampNeg) = 0 then (k42 (1 : Int32)) else (k41)) else none))))))) (fun k22 => (zl (k22 (0 : Int32)) (fun k21 => (if o1 = 0 then (k21) else (if a2_x < 0 then (k21) else (if (1 : Int32) < a2_x then (k21) else (k22 (1 : Int32)))))))))))
abbrev sc_B_mean (cI cL cM cZ : ClassId) (q_p0 q_p0_text q_p0_names q_p0_calendars q_p0_priorities q_p0_starts q_p0_estimates q_p0_many q_p0_newNames q_p0_numbers q_p0_newMany q_p0_needs q_p0_conditions q_p0_newNeeds q_p0_newConditions q_p0_needPlaces q_p0_rules q_p0_of q_p0_holidays q_p0_states q_p0_ran q_p0_sums q_p0_kept q_p0_startedJob q_p0_startedAt q_p0_ring q_p0_came q_p0_level q_p0_again q_p0_way q_p0_before q_p0_path : Nat) (v_p0_code : Int32) (v_p0_length : Int32) (v_p0_jobs : Int32) (v_p0_newJobs : Int32) (v_p0_made : Int32) (v_p0_days : Int32) (v_p0_now : Int64) (v_p0_started : Int32) (v_p0_ringSize : Int32) (v_p0_place : Int32) (f_p0_sums : Nat → Int64) (f_p0_kept : Nat → Int32) : List va_W := [[(q_p0, .inr (9, [.int v_p0_code, .ref q_p0_text, .int v_p0_length, .int v_p0_jobs, .int v_p0_newJobs, .ref q_p0_names, .ref q_p0_calendars, .ref q_p0_priorities, .ref q_p0_starts, .ref q_p0_estimates, .ref q_p0_many, .ref q_p0_newNames, .ref q_p0_numbers, .ref q_p0_newMany, .ref q_p0_needs, .ref q_p0_conditions, .ref q_p0_newNeeds, .ref q_p0_newConditions, .ref q_p0_needPlaces, .ref q_p0_rules, .ref q_p0_of, .int v_p0_made, .ref q_p0_holidays, .int v_p0_days, .ref q_p0_states, .ref q_p0_ran, .ref q_p0_sums, .ref q_p0_kept, .long v_p0_now, .ref q_p0_startedJob, .ref q_p0_startedAt, .int v_p0_started, .ref q_p0_ring, .ref q_p0_came, .ref q_p0_level, .int v_p0_ringSize, .ref q_p0_again, .ref q_p0_way, .ref q_p0_before, .ref q_p0_path, .int v_p0_place]))], [(q_p0_sums, .inl (cL, 27, .inr (.inl f_p0_sums)))], [(q_p0_kept, .inl (cI, 27, .inl f_p0_kept))]]
abbrev rm_B_mean : Room := { frames := 1, cells := 0, slots := 0, locals := 21 }
set_option maxHeartbeats 4000000 in
set_option maxRecDepth 100000 in
theorem ct_B_mean (l : Launch) (dC : Nat → ClassId) (dI : Nat → Nat → Nat) (cI cL cM cZ : ClassId) (q_p0 q_p0_text q_p0_names q_p0_calendars q_p0_priorities q_p0_starts q_p0_estimates q_p0_many q_p0_newNames q_p0_numbers q_p0_newMany q_p0_needs q_p0_conditions q_p0_newNeeds q_p0_newConditions q_p0_needPlaces q_p0_rules q_p0_of q_p0_holidays q_p0_states q_p0_ran q_p0_sums q_p0_kept q_p0_startedJob q_p0_startedAt q_p0_ring q_p0_came q_p0_level q_p0_again q_p0_way q_p0_before q_p0_path : Nat) (v_p0_code : Int32) (v_p0_length : Int32) (v_p0_jobs : Int32) (v_p0_newJobs : Int32) (v_p0_made : Int32) (v_p0_days : Int32) (v_p0_now : Int64) (v_p0_started : Int32) (v_p0_ringSize : Int32) (v_p0_place : Int32) (f_p0_sums : Nat → Int64) (f_p0_kept : Nat → Int32) (a1_x : Int32) (a2_x : Int32) (N : Nat) (o : Int64 × Int32) (hm : md_B_mean N v_p0_code v_p0_jobs f_p0_sums f_p0_kept a1_x a2_x = some o) : ∀ sz : Nat, Met l y_B_mean ws_B_mean rm_B_mean (cP (dC, dI) vwCl [(cI, .int), (cL, .long), (cM, .array .int), (cZ, .boolean)] [.ref q_p0, .int a1_x, .int a2_x] sz (sc_B_mean cI cL cM cZ q_p0 q_p0_text q_p0_names q_p0_calendars q_p0_priorities q_p0_starts q_p0_estimates q_p0_many q_p0_newNames q_p0_numbers q_p0_newMany q_p0_needs q_p0_conditions q_p0_newNeeds q_p0_newConditions q_p0_needPlaces q_p0_rules q_p0_of q_p0_holidays q_p0_states q_p0_ran q_p0_sums q_p0_kept q_p0_startedJob q_p0_startedAt q_p0_ring q_p0_came q_p0_level q_p0_again q_p0_way q_p0_before q_p0_path v_p0_code v_p0_length v_p0_jobs v_p0_newJobs v_p0_made v_p0_days v_p0_now v_p0_started v_p0_ringSize v_p0_place f_p0_sums f_p0_kept)) (cQl (dC, dI) vwCl [(cI, .int), (cL, .long), (cM, .array .int), (cZ, .boolean)] sz (sc_B_mean cI cL cM cZ q_p0 q_p0_text q_p0_names q_p0_calendars q_p0_priorities q_p0_starts q_p0_estimates q_p0_many q_p0_newNames q_p0_numbers q_p0_newMany q_p0_needs q_p0_conditions q_p0_newNeeds q_p0_newConditions q_p0_needPlaces q_p0_rules q_p0_of q_p0_holidays q_p0_states q_p0_ran q_p0_sums q_p0_kept q_p0_startedJob q_p0_startedAt q_p0_ring q_p0_came q_p0_level q_p0_again q_p0_way q_p0_before q_p0_path v_p0_code v_p0_length v_p0_jobs v_p0_newJobs v_p0_made v_p0_days v_p0_now v_p0_started v_p0_ringSize v_p0_place f_p0_sums f_p0_kept) o.1 (sc_B_mean cI cL cM cZ q_p0 q_p0_text q_p0_names q_p0_calendars q_p0_priorities q_p0_starts q_p0_estimates q_p0_many q_p0_newNames q_p0_numbers q_p0_newMany q_p0_needs q_p0_conditions q_p0_newNeeds q_p0_newConditions q_p0_needPlaces q_p0_rules q_p0_of q_p0_holidays q_p0_states q_p0_ran q_p0_sums q_p0_kept q_p0_startedJob q_p0_startedAt q_p0_ring q_p0_came q_p0_level q_p0_again q_p0_way q_p0_before q_p0_path o.2 v_p0_length v_p0_jobs v_p0_newJobs v_p0_made v_p0_days v_p0_now v_p0_started v_p0_ringSize v_p0_place f_p0_sums f_p0_kept)) 0 0 (va_A ((sc_B_mean cI cL cM cZ q_p0 q_p0_text q_p0_names q_p0_calendars q_p0_priorities q_p0_starts q_p0_estimates q_p0_many q_p0_newNames q_p0_numbers q_p0_newMany q_p0_needs q_p0_conditions q_p0_newNeeds q_p0_newConditions q_p0_needPlaces q_p0_rules q_p0_of q_p0_holidays q_p0_states q_p0_ran q_p0_sums q_p0_kept q_p0_startedJob q_p0_startedAt q_p0_ring q_p0_came q_p0_level q_p0_again q_p0_way q_p0_before q_p0_path v_p0_code v_p0_length v_p0_jobs v_p0_newJobs v_p0_made v_p0_days v_p0_now v_p0_started v_p0_ringSize v_p0_place f_p0_sums f_p0_kept)).flatten sz) := by
  refine sg_met (fun sz => cQl (dC, dI) vwCl [(cI, .int), (cL, .long), (cM, .array .int), (cZ, .boolean)] sz (sc_B_mean cI cL cM cZ q_p0 q_p0_text q_p0_names q_p0_calendars q_p0_priorities q_p0_starts q_p0_estimates q_p0_many q_p0_newNames q_p0_numbers q_p0_newMany q_p0_needs q_p0_conditions q_p0_newNeeds q_p0_newConditions q_p0_needPlaces q_p0_rules q_p0_of q_p0_holidays q_p0_states q_p0_ran q_p0_sums q_p0_kept q_p0_startedJob q_p0_startedAt q_p0_ring q_p0_came q_p0_level q_p0_again q_p0_way q_p0_before q_p0_path v_p0_code v_p0_length v_p0_jobs v_p0_newJobs v_p0_made v_p0_days v_p0_now v_p0_started v_p0_ringSize v_p0_place f_p0_sums f_p0_kept) o.1 (sc_B_mean cI cL cM cZ q_p0 q_p0_text q_p0_names q_p0_calendars q_p0_priorities q_p0_starts q_p0_estimates q_p0_many q_p0_newNames q_p0_numbers q_p0_newMany q_p0_needs q_p0_conditions q_p0_newNeeds q_p0_newConditions q_p0_needPlaces q_p0_rules q_p0_of q_p0_holidays q_p0_states q_p0_ran q_p0_sums q_p0_kept q_p0_startedJob q_p0_startedAt q_p0_ring q_p0_came q_p0_level q_p0_again q_p0_way q_p0_before q_p0_path o.2 v_p0_length v_p0_jobs v_p0_newJobs v_p0_made v_p0_days v_p0_now v_p0_started v_p0_ringSize v_p0_place f_p0_sums f_p0_kept)) (by decide) (Nat.le_of_ble_eq_true rfl) ?_
  intro p e s m args below meth c A Q ls hx hb hr hts hown hlocks hml hname hK hNW hA hAe hQ hw hl
  have hl : lv_has ls 4 [(0, .ref q_p0), (1, .int a1_x), (2, .int a2_x)] := hl
  have hw : wk (dC, dI) vwCl A s.heap [[(q_p0, .inr (9, [.int v_p0_code, .ref q_p0_text, .int v_p0_length, .int v_p0_jobs, .int v_p0_newJobs, .ref q_p0_names, .ref q_p0_calendars, .ref q_p0_priorities, .ref q_p0_starts, .ref q_p0_estimates, .ref q_p0_many, .ref q_p0_newNames, .ref q_p0_numbers, .ref q_p0_newMany, .ref q_p0_needs, .ref q_p0_conditions, .ref q_p0_newNeeds, .ref q_p0_newConditions, .ref q_p0_needPlaces, .ref q_p0_rules, .ref q_p0_of, .int v_p0_made, .ref q_p0_holidays, .int v_p0_days, .ref q_p0_states, .ref q_p0_ran, .ref q_p0_sums, .ref q_p0_kept, .long v_p0_now, .ref q_p0_startedJob, .ref q_p0_startedAt, .int v_p0_started, .ref q_p0_ring, .ref q_p0_came, .ref q_p0_level, .int v_p0_ringSize, .ref q_p0_again, .ref q_p0_way, .ref q_p0_before, .ref q_p0_path, .int v_p0_place]))], [(q_p0_sums, .inl (cL, 27, .inr (.inl f_p0_sums)))], [(q_p0_kept, .inl (cI, 27, .inl f_p0_kept))]] s.heap [] := hw
  unfold md_B_mean at hm
  refine lv_aload_n hx hb d_B_mean_0 rfl (lv_at hl 0 rfl) ?_
  refine lv_iload_n hx hb d_B_mean_1 rfl (lv_at hl 1 rfl) ?_
  obtain ⟨o1, h1, hm⟩ := zc_x hm
  refine sg_ci0 (Sr := [[(q_p0_sums, .inl (cL, 27, .inr (.inl f_p0_sums)))], [(q_p0_kept, .inl (cI, 27, .inl f_p0_kept))]]) (va_runV (As := [.int a1_x]) (rest := []) ⟨hx, hb, hml, hown, hts⟩ (ct_B_isJob l dC dI cI cL cM cZ q_p0 q_p0_text q_p0_names q_p0_calendars q_p0_priorities q_p0_starts q_p0_estimates q_p0_many q_p0_newNames q_p0_numbers q_p0_newMany q_p0_needs q_p0_conditions q_p0_newNeeds q_p0_newConditions q_p0_needPlaces q_p0_rules q_p0_of q_p0_holidays q_p0_states q_p0_ran q_p0_sums q_p0_kept q_p0_startedJob q_p0_startedAt q_p0_ring q_p0_came q_p0_level q_p0_again q_p0_way q_p0_before q_p0_path v_p0_code v_p0_length v_p0_jobs v_p0_newJobs v_p0_made v_p0_days v_p0_now v_p0_started v_p0_ringSize v_p0_place a1_x N o1 h1 _) (cwV 1 hts (gd_V wd_799 wd_801 ws_29 wd_10 wd_802) rfl rfl rfl (by decide +kernel) ⟨Nat.le_of_ble_eq_true rfl, Nat.le_of_ble_eq_true rfl⟩) (sg_preV (ci := 9) (q0 := 0) hK hNW hw [0] rfl rfl rfl rfl) rfl rfl hl.1 rfl (lv_room (Nat.le_of_ble_eq_true rfl)) d_B_mean_2 ⟨Nat.le_of_ble_eq_true rfl, Nat.le_of_ble_eq_true rfl⟩) hw hA [0] [1, 2] rfl rfl rfl (by decide) (fun H locs hw => ?_)
  have hw : wk (dC, dI) vwCl A s.heap [[(q_p0_sums, .inl (cL, 27, .inr (.inl f_p0_sums)))], [(q_p0_kept, .inl (cI, 27, .inl f_p0_kept))], [(q_p0, .inr (9, [.int v_p0_code, .ref q_p0_text, .int v_p0_length, .int v_p0_jobs, .int v_p0_newJobs, .ref q_p0_names, .ref q_p0_calendars, .ref q_p0_priorities, .ref q_p0_starts, .ref q_p0_estimates, .ref q_p0_many, .ref q_p0_newNames, .ref q_p0_numbers, .ref q_p0_newMany, .ref q_p0_needs, .ref q_p0_conditions, .ref q_p0_newNeeds, .ref q_p0_newConditions, .ref q_p0_needPlaces, .ref q_p0_rules, .ref q_p0_of, .int v_p0_made, .ref q_p0_holidays, .int v_p0_days, .ref q_p0_states, .ref q_p0_ran, .ref q_p0_sums, .ref q_p0_kept, .long v_p0_now, .ref q_p0_startedJob, .ref q_p0_startedAt, .int v_p0_started, .ref q_p0_ring, .ref q_p0_came, .ref q_p0_level, .int v_p0_ringSize, .ref q_p0_again, .ref q_p0_way, .ref q_p0_before, .ref q_p0_path, .int v_p0_place]))]] H locs := hw
  obtain ⟨k22, hk22, hm⟩ := zl_x hm
  have J22 : ∀ (x2 : Int32) , k22 x2 = some o → ∀ (H : Heap) (locs : List Loc) (ls : Array Slot), wk (dC, dI) vwCl A s.heap [[(q_p0_sums, .inl (cL, 27, .inr (.inl f_p0_sums)))], [(q_p0_kept, .inl (cI, 27, .inl f_p0_kept))], [(q_p0, .inr (9, [.int v_p0_code, .ref q_p0_text, .int v_p0_length, .int v_p0_jobs, .int v_p0_newJobs, .ref q_p0_names, .ref q_p0_calendars, .ref q_p0_priorities, .ref q_p0_starts, .ref q_p0_estimates, .ref q_p0_many, .ref q_p0_newNames, .ref q_p0_numbers, .ref q_p0_newMany, .ref q_p0_needs, .ref q_p0_conditions, .ref q_p0_newNeeds, .ref q_p0_newConditions, .ref q_p0_needPlaces, .ref q_p0_rules, .ref q_p0_of, .int v_p0_made, .ref q_p0_holidays, .int v_p0_days, .ref q_p0_states, .ref q_p0_ran, .ref q_p0_sums, .ref q_p0_kept, .long v_p0_now, .ref q_p0_startedJob, .ref q_p0_startedAt, .int v_p0_started, .ref q_p0_ring, .ref q_p0_came, .ref q_p0_level, .int v_p0_ringSize, .ref q_p0_again, .ref q_p0_way, .ref q_p0_before, .ref q_p0_path, .int v_p0_place]))]] H locs → lv_has ls 4 [(0, .ref q_p0), (1, .int a1_x), (2, .int a2_x)] → W p l e rm_B_mean s m args below meth c H locs 0 0 Q (F0 m 22 ls [.int x2]) := by
    intro x2 hm H locs ls hw hl
    subst hk22
    refine lv_istore_n (lv' := [(3, .int x2), (0, .ref q_p0), (1, .int a1_x), (2, .int a2_x)]) hx hb d_B_mean_22 rfl hl (by decide) rfl (fun ls hl => ?_)
    refine lv_aload_n hx hb d_B_mean_23 rfl (lv_at hl 1 rfl) ?_
    refine lv_iload_n hx hb d_B_mean_24 rfl (lv_at hl 0 rfl) ?_
    obtain ⟨k42, hk42, hm⟩ := zl_x hm
    have J42 : ∀ (x3 : Int32) , k42 x3 = some o → ∀ (H : Heap) (locs : List Loc) (ls : Array Slot), wk (dC, dI) vwCl A s.heap [[(q_p0_sums, .inl (cL, 27, .inr (.inl f_p0_sums)))], [(q_p0_kept, .inl (cI, 27, .inl f_p0_kept))], [(q_p0, .inr (9, [.int v_p0_code, .ref q_p0_text, .int v_p0_length, .int v_p0_jobs, .int v_p0_newJobs, .ref q_p0_names, .ref q_p0_calendars, .ref q_p0_priorities, .ref q_p0_starts, .ref q_p0_estimates, .ref q_p0_many, .ref q_p0_newNames, .ref q_p0_numbers, .ref q_p0_newMany, .ref q_p0_needs, .ref q_p0_conditions, .ref q_p0_newNeeds, .ref q_p0_newConditions, .ref q_p0_needPlaces, .ref q_p0_rules, .ref q_p0_of, .int v_p0_made, .ref q_p0_holidays, .int v_p0_days, .ref q_p0_states, .ref q_p0_ran, .ref q_p0_sums, .ref q_p0_kept, .long v_p0_now, .ref q_p0_startedJob, .ref q_p0_startedAt, .int v_p0_started, .ref q_p0_ring, .ref q_p0_came, .ref q_p0_level, .int v_p0_ringSize, .ref q_p0_again, .ref q_p0_way, .ref q_p0_before, .ref q_p0_path, .int v_p0_place]))]] H locs → lv_has ls 4 [(3, .int x2), (0, .ref q_p0), (1, .int a1_x), (2, .int a2_x)] → W p l e rm_B_mean s m args below meth c H locs 0 0 Q (F0 m 42 ls [.int x3, .ref q_p0]) := by
      intro x3 hm H locs ls hw hl
      subst hk42
      refine sg_put (D := (dC, dI)) (ci := 9) (v := .int x3) (ty := .int) (C := "JobNetsModel") (T := T_9) (N := 41) (S1 := [[(q_p0_sums, .inl (cL, 27, .inr (.inl f_p0_sums)))], [(q_p0_kept, .inl (cI, 27, .inl f_p0_kept))], [(q_p0, .inr (9, [.int x3, .ref q_p0_text, .int v_p0_length, .int v_p0_jobs, .int v_p0_newJobs, .ref q_p0_names, .ref q_p0_calendars, .ref q_p0_priorities, .ref q_p0_starts, .ref q_p0_estimates, .ref q_p0_many, .ref q_p0_newNames, .ref q_p0_numbers, .ref q_p0_newMany, .ref q_p0_needs, .ref q_p0_conditions, .ref q_p0_newNeeds, .ref q_p0_newConditions, .ref q_p0_needPlaces, .ref q_p0_rules, .ref q_p0_of, .int v_p0_made, .ref q_p0_holidays, .int v_p0_days, .ref q_p0_states, .ref q_p0_ran, .ref q_p0_sums, .ref q_p0_kept, .long v_p0_now, .ref q_p0_startedJob, .ref q_p0_startedAt, .int v_p0_started, .ref q_p0_ring, .ref q_p0_came, .ref q_p0_level, .int v_p0_ringSize, .ref q_p0_again, .ref q_p0_way, .ref q_p0_before, .ref q_p0_path, .int v_p0_place]))]]) hx hb hts hin_9 ty_9 tok_9 nd_9 hown hK hw 2 rfl rfl 0 (by decide) (hts _ wd_616) rfl rfl (by decide +kernel) rfl rfl (Nat.le_of_ble_eq_true rfl) rfl d_B_mean_42 (fun H locs hw => ?_)
      refine lv_iload_n hx hb d_B_mean_45 rfl (lv_at hl 0 rfl) ?_
      refine bq_n (lv_if_ne (tgt := 53) hx hb d_B_mean_46 (by decide)) hm (fun hm => ?_) (fun hm => ?_)
      · refine lv_aload_n hx hb d_B_mean_53 rfl (lv_at hl 1 rfl) ?_
        refine sg_get (D := (dC, dI)) (ci := 9) (v := .int x3) (C := "JobNetsModel") (T := T_9) (N := 41) hx hb hts hin_9 hown hK hw 2 rfl rfl 0 (by decide) (hts _ wd_616) rfl rfl d_B_mean_54 ?_
        refine bq_t (lv_if_le (tgt := 64) hx hb d_B_mean_57 (by decide)) hm (fun hm => ?_) (fun hm => ?_)
        · refine lv_iload_n hx hb d_B_mean_64 rfl (lv_at hl 3 rfl) ?_
          refine bq_n (lv_if_ne (tgt := 85) hx hb d_B_mean_65 (by decide)) hm (fun hm => ?_) (fun hm => ?_)
          · refine lv_aload_n hx hb d_B_mean_85 rfl (lv_at hl 1 rfl) ?_
            refine sg_get (D := (dC, dI)) (ci := 9) (v := .ref q_p0_sums) (C := "JobNetsModel") (T := T_9) (N := 41) hx hb hts hin_9 hown hK hw 2 rfl rfl 26 (by decide) (hts _ wd_642) rfl rfl d_B_mean_86 ?_
            refine lv_iload_n hx hb d_B_mean_89 rfl (lv_at hl 2 rfl) ?_
            refine sg_lald hx hb hK hw 0 1 rfl rfl d_B_mean_90 hm (fun hm => ?_)
            refine lv_aload_n hx hb d_B_mean_91 rfl (lv_at hl 1 rfl) ?_
            refine sg_get (D := (dC, dI)) (ci := 9) (v := .ref q_p0_kept) (C := "JobNetsModel") (T := T_9) (N := 41) hx hb hts hin_9 hown hK hw 2 rfl rfl 27 (by decide) (hts _ wd_643) rfl rfl d_B_mean_92 ?_
            refine lv_iload_n hx hb d_B_mean_95 rfl (lv_at hl 2 rfl) ?_
            refine sg_iald hx hb hK hw 1 0 rfl rfl d_B_mean_96 hm (fun hm => ?_)
            refine lv_i2l hx hb d_B_mean_97 rfl ?_
            obtain ⟨hne, hm⟩ := it_n hm
            refine lv_lrem hx hb d_B_mean_98 hne ?_
            exact so_lret (rf := fun z_ => z_.1) (Sf := fun z_ => sc_B_mean cI cL cM cZ q_p0 q_p0_text q_p0_names q_p0_calendars q_p0_priorities q_p0_starts q_p0_estimates q_p0_many q_p0_newNames q_p0_numbers q_p0_newMany q_p0_needs q_p0_conditions q_p0_newNeeds q_p0_newConditions q_p0_needPlaces q_p0_rules q_p0_of q_p0_holidays q_p0_states q_p0_ran q_p0_sums q_p0_kept q_p0_startedJob q_p0_startedAt q_p0_ring q_p0_came q_p0_level q_p0_again q_p0_way q_p0_before q_p0_path z_.2 v_p0_length v_p0_jobs v_p0_newJobs v_p0_made v_p0_days v_p0_now v_p0_started v_p0_ringSize v_p0_place f_p0_sums f_p0_kept) hm hx hb hr hlocks hAe hQ hK (hw.sub [2, 0, 1] (by decide) rfl) rfl d_B_mean_99
          · refine lv_aload_n hx hb d_B_mean_68 rfl (lv_at hl 1 rfl) ?_
            refine sg_get (D := (dC, dI)) (ci := 9) (v := .ref q_p0_sums) (C := "JobNetsModel") (T := T_9) (N := 41) hx hb hts hin_9 hown hK hw 2 rfl rfl 26 (by decide) (hts _ wd_642) rfl rfl d_B_mean_69 ?_
            refine lv_iload_n hx hb d_B_mean_72 rfl (lv_at hl 2 rfl) ?_
            refine sg_lald hx hb hK hw 0 1 rfl rfl d_B_mean_73 hm (fun hm => ?_)
            refine lv_aload_n hx hb d_B_mean_74 rfl (lv_at hl 1 rfl) ?_
            refine sg_get (D := (dC, dI)) (ci := 9) (v := .ref q_p0_kept) (C := "JobNetsModel") (T := T_9) (N := 41) hx hb hts hin_9 hown hK hw 2 rfl rfl 27 (by decide) (hts _ wd_643) rfl rfl d_B_mean_75 ?_
            refine lv_iload_n hx hb d_B_mean_78 rfl (lv_at hl 2 rfl) ?_
            refine sg_iald hx hb hK hw 1 0 rfl rfl d_B_mean_79 hm (fun hm => ?_)
            refine lv_i2l hx hb d_B_mean_80 rfl ?_
            obtain ⟨hne, hm⟩ := it_n hm
            refine lv_ldiv hx hb d_B_mean_81 hne ?_
            refine lv_goto (tgt := 99) hx hb d_B_mean_82 (by decide) ?_
            exact so_lret (rf := fun z_ => z_.1) (Sf := fun z_ => sc_B_mean cI cL cM cZ q_p0 q_p0_text q_p0_names q_p0_calendars q_p0_priorities q_p0_starts q_p0_estimates q_p0_many q_p0_newNames q_p0_numbers q_p0_newMany q_p0_needs q_p0_conditions q_p0_newNeeds q_p0_newConditions q_p0_needPlaces q_p0_rules q_p0_of q_p0_holidays q_p0_states q_p0_ran q_p0_sums q_p0_kept q_p0_startedJob q_p0_startedAt q_p0_ring q_p0_came q_p0_level q_p0_again q_p0_way q_p0_before q_p0_path z_.2 v_p0_length v_p0_jobs v_p0_newJobs v_p0_made v_p0_days v_p0_now v_p0_started v_p0_ringSize v_p0_place f_p0_sums f_p0_kept) hm hx hb hr hlocks hAe hQ hK (hw.sub [2, 0, 1] (by decide) rfl) rfl d_B_mean_99
        · refine lv_lconst (v := 0) hx hb d_B_mean_60 (by decide) ?_
          refine lv_goto (tgt := 99) hx hb d_B_mean_61 (by decide) ?_
          exact so_lret (rf := fun z_ => z_.1) (Sf := fun z_ => sc_B_mean cI cL cM cZ q_p0 q_p0_text q_p0_names q_p0_calendars q_p0_priorities q_p0_starts q_p0_estimates q_p0_many q_p0_newNames q_p0_numbers q_p0_newMany q_p0_needs q_p0_conditions q_p0_newNeeds q_p0_newConditions q_p0_needPlaces q_p0_rules q_p0_of q_p0_holidays q_p0_states q_p0_ran q_p0_sums q_p0_kept q_p0_startedJob q_p0_startedAt q_p0_ring q_p0_came q_p0_level q_p0_again q_p0_way q_p0_before q_p0_path z_.2 v_p0_length v_p0_jobs v_p0_newJobs v_p0_made v_p0_days v_p0_now v_p0_started v_p0_ringSize v_p0_place f_p0_sums f_p0_kept) hm hx hb hr hlocks hAe hQ hK (hw.sub [2, 0, 1] (by decide) rfl) rfl d_B_mean_99
      · refine lv_ldc2 hx hb (v := -1) hown (hts _ wd_816) d_B_mean_49 ?_
        exact so_lret (rf := fun z_ => z_.1) (Sf := fun z_ => sc_B_mean cI cL cM cZ q_p0 q_p0_text q_p0_names q_p0_calendars q_p0_priorities q_p0_starts q_p0_estimates q_p0_many q_p0_newNames q_p0_numbers q_p0_newMany q_p0_needs q_p0_conditions q_p0_newNeeds q_p0_newConditions q_p0_needPlaces q_p0_rules q_p0_of q_p0_holidays q_p0_states q_p0_ran q_p0_sums q_p0_kept q_p0_startedJob q_p0_startedAt q_p0_ring q_p0_came q_p0_level q_p0_again q_p0_way q_p0_before q_p0_path z_.2 v_p0_length v_p0_jobs v_p0_newJobs v_p0_made v_p0_days v_p0_now v_p0_started v_p0_ringSize v_p0_place f_p0_sums f_p0_kept) hm hx hb hr hlocks hAe hQ hK (hw.sub [2, 0, 1] (by decide) rfl) rfl d_B_mean_52
    obtain ⟨k41, hk41, hm⟩ := zl_x hm
    have J41 : k41 = some o → ∀ (H : Heap) (locs : List Loc) (ls : Array Slot), wk (dC, dI) vwCl A s.heap [[(q_p0_sums, .inl (cL, 27, .inr (.inl f_p0_sums)))], [(q_p0_kept, .inl (cI, 27, .inl f_p0_kept))], [(q_p0, .inr (9, [.int v_p0_code, .ref q_p0_text, .int v_p0_length, .int v_p0_jobs, .int v_p0_newJobs, .ref q_p0_names, .ref q_p0_calendars, .ref q_p0_priorities, .ref q_p0_starts, .ref q_p0_estimates, .ref q_p0_many, .ref q_p0_newNames, .ref q_p0_numbers, .ref q_p0_newMany, .ref q_p0_needs, .ref q_p0_conditions, .ref q_p0_newNeeds, .ref q_p0_newConditions, .ref q_p0_needPlaces, .ref q_p0_rules, .ref q_p0_of, .int v_p0_made, .ref q_p0_holidays, .int v_p0_days, .ref q_p0_states, .ref q_p0_ran, .ref q_p0_sums, .ref q_p0_kept, .long v_p0_now, .ref q_p0_startedJob, .ref q_p0_startedAt, .int v_p0_started, .ref q_p0_ring, .ref q_p0_came, .ref q_p0_level, .int v_p0_ringSize, .ref q_p0_again, .ref q_p0_way, .ref q_p0_before, .ref q_p0_path, .int v_p0_place]))]] H locs → lv_has ls 4 [(3, .int x2), (0, .ref q_p0), (1, .int a1_x), (2, .int a2_x)] → W p l e rm_B_mean s m args below meth c H locs 0 0 Q (F0 m 41 ls [.ref q_p0]) := by
      intro hm H locs ls hw hl
      subst hk41
      refine lv_iconst (v := 0) hx hb d_B_mean_41 (by decide) ?_
      exact J42 (0 : Int32) hm _ _ _ hw hl
    refine bq_t (lv_if_eq (tgt := 41) hx hb d_B_mean_25 (by decide)) hm (fun hm => ?_) (fun hm => ?_)
    · exact J41  hm _ _ _ hw hl
    · refine lv_aload_n hx hb d_B_mean_28 rfl (lv_at hl 1 rfl) ?_
      refine sg_get (D := (dC, dI)) (ci := 9) (v := .ref q_p0_kept) (C := "JobNetsModel") (T := T_9) (N := 41) hx hb hts hin_9 hown hK hw 2 rfl rfl 27 (by decide) (hts _ wd_643) rfl rfl d_B_mean_29 ?_
      refine lv_iload_n hx hb d_B_mean_32 rfl (lv_at hl 2 rfl) ?_
      refine sg_iald hx hb hK hw 1 0 rfl rfl d_B_mean_33 hm (fun hm => ?_)
      refine bq_n (lv_if_ne (tgt := 41) hx hb d_B_mean_34 (by decide)) hm (fun hm => ?_) (fun hm => ?_)
      · exact J41  hm _ _ _ hw hl
      · refine lv_iconst (v := 1) hx hb d_B_mean_37 (by decide) ?_
        refine lv_goto (tgt := 42) hx hb d_B_mean_38 (by decide) ?_
        exact J42 (1 : Int32) hm _ _ _ hw hl
  obtain ⟨k21, hk21, hm⟩ := zl_x hm
  have J21 : k21 = some o → ∀ (H : Heap) (locs : List Loc) (ls : Array Slot), wk (dC, dI) vwCl A s.heap [[(q_p0_sums, .inl (cL, 27, .inr (.inl f_p0_sums)))], [(q_p0_kept, .inl (cI, 27, .inl f_p0_kept))], [(q_p0, .inr (9, [.int v_p0_code, .ref q_p0_text, .int v_p0_length, .int v_p0_jobs, .int v_p0_newJobs, .ref q_p0_names, .ref q_p0_calendars, .ref q_p0_priorities, .ref q_p0_starts, .ref q_p0_estimates, .ref q_p0_many, .ref q_p0_newNames, .ref q_p0_numbers, .ref q_p0_newMany, .ref q_p0_needs, .ref q_p0_conditions, .ref q_p0_newNeeds, .ref q_p0_newConditions, .ref q_p0_needPlaces, .ref q_p0_rules, .ref q_p0_of, .int v_p0_made, .ref q_p0_holidays, .int v_p0_days, .ref q_p0_states, .ref q_p0_ran, .ref q_p0_sums, .ref q_p0_kept, .long v_p0_now, .ref q_p0_startedJob, .ref q_p0_startedAt, .int v_p0_started, .ref q_p0_ring, .ref q_p0_came, .ref q_p0_level, .int v_p0_ringSize, .ref q_p0_again, .ref q_p0_way, .ref q_p0_before, .ref q_p0_path, .int v_p0_place]))]] H locs → lv_has ls 4 [(0, .ref q_p0), (1, .int a1_x), (2, .int a2_x)] → W p l e rm_B_mean s m args below meth c H locs 0 0 Q (F0 m 21 ls []) := by
    intro hm H locs ls hw hl
    subst hk21
    refine lv_iconst (v := 0) hx hb d_B_mean_21 (by decide) ?_
    exact J22 (0 : Int32) hm _ _ _ hw hl
  refine bq_t (lv_if_eq (tgt := 21) hx hb d_B_mean_5 (by decide)) hm (fun hm => ?_) (fun hm => ?_)
  · exact J21  hm _ _ _ hw hl
  · refine lv_iload_n hx hb d_B_mean_8 rfl (lv_at hl 2 rfl) ?_
    refine bq_t (lv_if_lt (tgt := 21) hx hb d_B_mean_9 (by decide)) hm (fun hm => ?_) (fun hm => ?_)
    · exact J21  hm _ _ _ hw hl
    · refine lv_iload_n hx hb d_B_mean_12 rfl (lv_at hl 2 rfl) ?_
      refine lv_iconst (v := 1) hx hb d_B_mean_13 (by decide) ?_
      refine bq_t (lv_icmp_gt (tgt := 21) hx hb d_B_mean_14 (by decide)) hm (fun hm => ?_) (fun hm => ?_)
      · exact J21  hm _ _ _ hw hl
      · refine lv_iconst (v := 1) hx hb d_B_mean_17 (by decide) ?_
        refine lv_goto (tgt := 22) hx hb d_B_mean_18 (by decide) ?_
        exact J22 (1 : Int32) hm _ _ _ hw hl
theorem d_B_late_0 : decode prog_11_method_33_code 0 = .ok (.aload_n 0, 1) := by decide +kernel
theorem d_B_late_1 : decode prog_11_method_33_code 1 = .ok (.iconst 0, 1) := by decide +kernel
theorem d_B_late_2 : decode prog_11_method_33_code 2 = .ok (.putfield 105, 3) := by decide +kernel
theorem d_B_late_5 : decode prog_11_method_33_code 5 = .ok (.iconst 0, 1) := by decide +kernel
theorem d_B_late_6 : decode prog_11_method_33_code 6 = .ok (.istore 4, 2) := by decide +kernel
theorem d_B_late_8 : decode prog_11_method_33_code 8 = .ok (.iconst 1, 1) := by decide +kernel
theorem d_B_late_9 : decode prog_11_method_33_code 9 = .ok (.istore 5, 2) := by decide +kernel
theorem d_B_late_11 : decode prog_11_method_33_code 11 = .ok (.iload 5, 2) := by decide +kernel
theorem d_B_late_13 : decode prog_11_method_33_code 13 = .ok (.aload_n 0, 1) := by decide +kernel
theorem d_B_late_14 : decode prog_11_method_33_code 14 = .ok (.getfield 149, 3) := by decide +kernel
theorem d_B_late_17 : decode prog_11_method_33_code 17 = .ok (.if_icmp .gt 128, 3) := by decide +kernel
theorem d_B_late_20 : decode prog_11_method_33_code 20 = .ok (.aload_n 0, 1) := by decide +kernel
theorem d_B_late_21 : decode prog_11_method_33_code 21 = .ok (.getfield 74, 3) := by decide +kernel
theorem d_B_late_24 : decode prog_11_method_33_code 24 = .ok (.iload 5, 2) := by decide +kernel
theorem d_B_late_26 : decode prog_11_method_33_code 26 = .ok (.iaload, 1) := by decide +kernel
theorem d_B_late_27 : decode prog_11_method_33_code 27 = .ok (.ifCond .ne 14, 3) := by decide +kernel
theorem d_B_late_30 : decode prog_11_method_33_code 30 = .ok (.aload_n 0, 1) := by decide +kernel
theorem d_B_late_31 : decode prog_11_method_33_code 31 = .ok (.getfield 25, 3) := by decide +kernel
theorem d_B_late_34 : decode prog_11_method_33_code 34 = .ok (.iload 5, 2) := by decide +kernel
theorem d_B_late_36 : decode prog_11_method_33_code 36 = .ok (.iaload, 1) := by decide +kernel
theorem d_B_late_37 : decode prog_11_method_33_code 37 = .ok (.i2l, 1) := by decide +kernel
theorem d_B_late_38 : decode prog_11_method_33_code 38 = .ok (.goto 19, 3) := by decide +kernel
theorem d_B_late_41 : decode prog_11_method_33_code 41 = .ok (.aload_n 0, 1) := by decide +kernel
theorem d_B_late_42 : decode prog_11_method_33_code 42 = .ok (.getfield 71, 3) := by decide +kernel
theorem d_B_late_45 : decode prog_11_method_33_code 45 = .ok (.iload 5, 2) := by decide +kernel
theorem d_B_late_47 : decode prog_11_method_33_code 47 = .ok (.laload, 1) := by decide +kernel
theorem d_B_late_48 : decode prog_11_method_33_code 48 = .ok (.aload_n 0, 1) := by decide +kernel
theorem d_B_late_49 : decode prog_11_method_33_code 49 = .ok (.getfield 74, 3) := by decide +kernel
theorem d_B_late_52 : decode prog_11_method_33_code 52 = .ok (.iload 5, 2) := by decide +kernel
theorem d_B_late_54 : decode prog_11_method_33_code 54 = .ok (.iaload, 1) := by decide +kernel
theorem d_B_late_55 : decode prog_11_method_33_code 55 = .ok (.i2l, 1) := by decide +kernel
theorem d_B_late_56 : decode prog_11_method_33_code 56 = .ok (.ldiv, 1) := by decide +kernel
theorem d_B_late_57 : decode prog_11_method_33_code 57 = .ok (.lstore 6, 2) := by decide +kernel
theorem d_B_late_59 : decode prog_11_method_33_code 59 = .ok (.aload_n 0, 1) := by decide +kernel
theorem d_B_late_60 : decode prog_11_method_33_code 60 = .ok (.getfield 65, 3) := by decide +kernel
theorem d_B_late_63 : decode prog_11_method_33_code 63 = .ok (.iload 5, 2) := by decide +kernel
theorem d_B_late_65 : decode prog_11_method_33_code 65 = .ok (.iaload, 1) := by decide +kernel
theorem d_B_late_66 : decode prog_11_method_33_code 66 = .ok (.iconst 2, 1) := by decide +kernel
theorem d_B_late_67 : decode prog_11_method_33_code 67 = .ok (.if_icmp .ne 18, 3) := by decide +kernel
theorem d_B_late_70 : decode prog_11_method_33_code 70 = .ok (.lload_n 1, 1) := by decide +kernel
theorem d_B_late_71 : decode prog_11_method_33_code 71 = .ok (.aload_n 0, 1) := by decide +kernel
theorem d_B_late_72 : decode prog_11_method_33_code 72 = .ok (.getfield 68, 3) := by decide +kernel
theorem d_B_late_75 : decode prog_11_method_33_code 75 = .ok (.iload 5, 2) := by decide +kernel
theorem d_B_late_77 : decode prog_11_method_33_code 77 = .ok (.laload, 1) := by decide +kernel
theorem d_B_late_78 : decode prog_11_method_33_code 78 = .ok (.lload 6, 2) := by decide +kernel
theorem d_B_late_80 : decode prog_11_method_33_code 80 = .ok (.ladd, 1) := by decide +kernel
theorem d_B_late_81 : decode prog_11_method_33_code 81 = .ok (.lcmp, 1) := by decide +kernel
theorem d_B_late_82 : decode prog_11_method_33_code 82 = .ok (.ifCond .gt 30, 3) := by decide +kernel
theorem d_B_late_85 : decode prog_11_method_33_code 85 = .ok (.aload_n 0, 1) := by decide +kernel
theorem d_B_late_86 : decode prog_11_method_33_code 86 = .ok (.getfield 65, 3) := by decide +kernel
theorem d_B_late_89 : decode prog_11_method_33_code 89 = .ok (.iload 5, 2) := by decide +kernel
theorem d_B_late_91 : decode prog_11_method_33_code 91 = .ok (.iaload, 1) := by decide +kernel
theorem d_B_late_92 : decode prog_11_method_33_code 92 = .ok (.iconst 1, 1) := by decide +kernel
theorem d_B_late_93 : decode prog_11_method_33_code 93 = .ok (.if_icmp .ne 23, 3) := by decide +kernel
theorem d_B_late_96 : decode prog_11_method_33_code 96 = .ok (.lload_n 1, 1) := by decide +kernel
theorem d_B_late_97 : decode prog_11_method_33_code 97 = .ok (.aload_n 0, 1) := by decide +kernel
theorem d_B_late_98 : decode prog_11_method_33_code 98 = .ok (.getfield 22, 3) := by decide +kernel
theorem d_B_late_101 : decode prog_11_method_33_code 101 = .ok (.iload 5, 2) := by decide +kernel
theorem d_B_late_103 : decode prog_11_method_33_code 103 = .ok (.iaload, 1) := by decide +kernel
theorem d_B_late_104 : decode prog_11_method_33_code 104 = .ok (.i2l, 1) := by decide +kernel
theorem d_B_late_105 : decode prog_11_method_33_code 105 = .ok (.lload 6, 2) := by decide +kernel
theorem d_B_late_107 : decode prog_11_method_33_code 107 = .ok (.ladd, 1) := by decide +kernel
theorem d_B_late_108 : decode prog_11_method_33_code 108 = .ok (.lcmp, 1) := by decide +kernel
theorem d_B_late_109 : decode prog_11_method_33_code 109 = .ok (.ifCond .le 7, 3) := by decide +kernel
theorem d_B_late_112 : decode prog_11_method_33_code 112 = .ok (.iconst 1, 1) := by decide +kernel
theorem d_B_late_113 : decode prog_11_method_33_code 113 = .ok (.goto 4, 3) := by decide +kernel
theorem d_B_late_116 : decode prog_11_method_33_code 116 = .ok (.iconst 0, 1) := by decide +kernel
theorem d_B_late_117 : decode prog_11_method_33_code 117 = .ok (.istore 8, 2) := by decide +kernel
theorem d_B_late_119 : decode prog_11_method_33_code 119 = .ok (.iload 8, 2) := by decide +kernel
theorem d_B_late_121 : decode prog_11_method_33_code 121 = .ok (.ifCond .ne 6, 3) := by decide +kernel
theorem d_B_late_124 : decode prog_11_method_33_code 124 = .ok (.goto 15, 3) := by decide +kernel
theorem d_B_late_127 : decode prog_11_method_33_code 127 = .ok (.iload 4, 2) := by decide +kernel
theorem d_B_late_129 : decode prog_11_method_33_code 129 = .ok (.iload_n 3, 1) := by decide +kernel
theorem d_B_late_130 : decode prog_11_method_33_code 130 = .ok (.if_icmp .ne 6, 3) := by decide +kernel
theorem d_B_late_133 : decode prog_11_method_33_code 133 = .ok (.iload 5, 2) := by decide +kernel
theorem d_B_late_135 : decode prog_11_method_33_code 135 = .ok (.ireturn, 1) := by decide +kernel
theorem d_B_late_136 : decode prog_11_method_33_code 136 = .ok (.iinc 4 1, 3) := by decide +kernel
theorem d_B_late_139 : decode prog_11_method_33_code 139 = .ok (.iinc 5 1, 3) := by decide +kernel
theorem d_B_late_142 : decode prog_11_method_33_code 142 = .ok (.goto (-131), 3) := by decide +kernel
theorem d_B_late_145 : decode prog_11_method_33_code 145 = .ok (.iconst 0, 1) := by decide +kernel
theorem d_B_late_146 : decode prog_11_method_33_code 146 = .ok (.ireturn, 1) := by decide +kernel
def md_B_late_F11 (v_p0_jobs : Int32) (f_p0_starts : Nat → Int32) (f_p0_estimates : Nat → Int32) (f_p0_states : Nat → Int32) (f_p0_ran : Nat → Int64) (f_p0_sums : Nat → Int64) (f_p0_kept : Nat → Int32) (a1_x : Int64) (a2_x : Int32) (rec11 : Int32 → Int32 → Option (Int32 × Int32)) (x1 : Int32) (x2 : Int32) : Option (Int32 × Int32) :=
  (if v_p0_jobs < x1 then (some ((0 : Int32), (0 : Int32))) else (if sg_in x1 27 = true then (zl (fun (x3 : Int64) => (if sg_in x1 27 = true then (zl (if (1 : Int32) = 0 then (rec11 (x1 + 1) x2) else (if x2 = a2_x then (some (x1, (0 : Int32))) else (rec11 (x1 + 1) (x2 + 1)))) (fun k112 => (zl (if sg_in x1 27 = true then (zl (if (0 : Int32) = 0 then (rec11 (x1 + 1) x2) else (if x2 = a2_x then (some (x1, (0 : Int32))) else (rec11 (x1 + 1) (x2 + 1)))) (fun k116 => (if (f_p0_states x1.toNatClampNeg) = (1 : Int32) then (if sg_in x1 27 = true then (if (lg_cmp a1_x (((f_p0_starts x1.toNatClampNeg).toInt64) + x3)) ≤ 0 then (k116) else (k112)) else none) else (k116)))) else none) (fun k85 => (if (f_p0_states x1.toNatClampNeg) = (2 : Int32) then (if sg_in x1 27 = true then (if 0 < (lg_cmp a1_x ((f_p0_ran x1.toNatClampNeg) + x3)) then (k112) else (k85)) else none) else (k85)))))) else none)) (fun k57 => (if (f_p0_kept x1.toNatClampNeg) = 0 then (if sg_in x1 27 = true then (k57 ((f_p0_estimates x1.toNatClampNeg).toInt64)) else none) else (if sg_in x1 27 = true then (if sg_in x1 27 = true then (if ¬ ((f_p0_kept x1.toNatClampNeg).toInt64) = (0 : Int64) then (k57 ((f_p0_sums x1.toNatClampNeg) / ((f_p0_kept x1.toNatClampNeg).toInt64))) else none) else none) else none)))) else none))
def md_B_late (N : Nat) (v_p0_code : Int32) (v_p0_jobs : Int32) (f_p0_starts : Nat → Int32) (f_p0_estimates : Nat → Int32) (f_p0_states : Nat → Int32) (f_p0_ran : Nat → Int64) (f_p0_sums : Nat → Int64) (f_p0_kept : Nat → Int32) (a1_x : Int64) (a2_x : Int32) : Option (Int32 × Int32) :=
  (fx2 (md_B_late_F11 v_p0_jobs f_p0_starts f_p0_estimates f_p0_states f_p0_ran f_p0_sums f_p0_kept a1_x a2_x) N (1 : Int32) (0 : Int32))
abbrev sc_B_late (cI cL cM cZ : ClassId) (q_p0 q_p0_text q_p0_names q_p0_calendars q_p0_priorities q_p0_starts q_p0_estimates q_p0_many q_p0_newNames q_p0_numbers q_p0_newMany q_p0_needs q_p0_conditions q_p0_newNeeds q_p0_newConditions q_p0_needPlaces q_p0_rules q_p0_of q_p0_holidays q_p0_states q_p0_ran q_p0_sums q_p0_kept q_p0_startedJob q_p0_startedAt q_p0_ring q_p0_came q_p0_level q_p0_again q_p0_way q_p0_before q_p0_path : Nat) (v_p0_code : Int32) (v_p0_length : Int32) (v_p0_jobs : Int32) (v_p0_newJobs : Int32) (v_p0_made : Int32) (v_p0_days : Int32) (v_p0_now : Int64) (v_p0_started : Int32) (v_p0_ringSize : Int32) (v_p0_place : Int32) (f_p0_starts : Nat → Int32) (f_p0_estimates : Nat → Int32) (f_p0_states : Nat → Int32) (f_p0_ran : Nat → Int64) (f_p0_sums : Nat → Int64) (f_p0_kept : Nat → Int32) : List va_W := [[(q_p0, .inr (9, [.int v_p0_code, .ref q_p0_text, .int v_p0_length, .int v_p0_jobs, .int v_p0_newJobs, .ref q_p0_names, .ref q_p0_calendars, .ref q_p0_priorities, .ref q_p0_starts, .ref q_p0_estimates, .ref q_p0_many, .ref q_p0_newNames, .ref q_p0_numbers, .ref q_p0_newMany, .ref q_p0_needs, .ref q_p0_conditions, .ref q_p0_newNeeds, .ref q_p0_newConditions, .ref q_p0_needPlaces, .ref q_p0_rules, .ref q_p0_of, .int v_p0_made, .ref q_p0_holidays, .int v_p0_days, .ref q_p0_states, .ref q_p0_ran, .ref q_p0_sums, .ref q_p0_kept, .long v_p0_now, .ref q_p0_startedJob, .ref q_p0_startedAt, .int v_p0_started, .ref q_p0_ring, .ref q_p0_came, .ref q_p0_level, .int v_p0_ringSize, .ref q_p0_again, .ref q_p0_way, .ref q_p0_before, .ref q_p0_path, .int v_p0_place]))], [(q_p0_starts, .inl (cI, 27, .inl f_p0_starts))], [(q_p0_estimates, .inl (cI, 27, .inl f_p0_estimates))], [(q_p0_states, .inl (cI, 27, .inl f_p0_states))], [(q_p0_ran, .inl (cL, 27, .inr (.inl f_p0_ran)))], [(q_p0_sums, .inl (cL, 27, .inr (.inl f_p0_sums)))], [(q_p0_kept, .inl (cI, 27, .inl f_p0_kept))]]
abbrev rm_B_late : Room := { frames := 0, cells := 0, slots := 0, locals := 0 }
set_option maxHeartbeats 4000000 in
set_option maxRecDepth 100000 in
theorem ct_B_late (l : Launch) (dC : Nat → ClassId) (dI : Nat → Nat → Nat) (cI cL cM cZ : ClassId) (q_p0 q_p0_text q_p0_names q_p0_calendars q_p0_priorities q_p0_starts q_p0_estimates q_p0_many q_p0_newNames q_p0_numbers q_p0_newMany q_p0_needs q_p0_conditions q_p0_newNeeds q_p0_newConditions q_p0_needPlaces q_p0_rules q_p0_of q_p0_holidays q_p0_states q_p0_ran q_p0_sums q_p0_kept q_p0_startedJob q_p0_startedAt q_p0_ring q_p0_came q_p0_level q_p0_again q_p0_way q_p0_before q_p0_path : Nat) (v_p0_code : Int32) (v_p0_length : Int32) (v_p0_jobs : Int32) (v_p0_newJobs : Int32) (v_p0_made : Int32) (v_p0_days : Int32) (v_p0_now : Int64) (v_p0_started : Int32) (v_p0_ringSize : Int32) (v_p0_place : Int32) (f_p0_starts : Nat → Int32) (f_p0_estimates : Nat → Int32) (f_p0_states : Nat → Int32) (f_p0_ran : Nat → Int64) (f_p0_sums : Nat → Int64) (f_p0_kept : Nat → Int32) (a1_x : Int64) (a2_x : Int32) (N : Nat) (o : Int32 × Int32) (hm : md_B_late N v_p0_code v_p0_jobs f_p0_starts f_p0_estimates f_p0_states f_p0_ran f_p0_sums f_p0_kept a1_x a2_x = some o) : ∀ sz : Nat, Met l y_B_late ws_B_late rm_B_late (cP (dC, dI) vwCl [(cI, .int), (cL, .long), (cM, .array .int), (cZ, .boolean)] [.ref q_p0, .long a1_x, .int a2_x] sz (sc_B_late cI cL cM cZ q_p0 q_p0_text q_p0_names q_p0_calendars q_p0_priorities q_p0_starts q_p0_estimates q_p0_many q_p0_newNames q_p0_numbers q_p0_newMany q_p0_needs q_p0_conditions q_p0_newNeeds q_p0_newConditions q_p0_needPlaces q_p0_rules q_p0_of q_p0_holidays q_p0_states q_p0_ran q_p0_sums q_p0_kept q_p0_startedJob q_p0_startedAt q_p0_ring q_p0_came q_p0_level q_p0_again q_p0_way q_p0_before q_p0_path v_p0_code v_p0_length v_p0_jobs v_p0_newJobs v_p0_made v_p0_days v_p0_now v_p0_started v_p0_ringSize v_p0_place f_p0_starts f_p0_estimates f_p0_states f_p0_ran f_p0_sums f_p0_kept)) (cQi (dC, dI) vwCl [(cI, .int), (cL, .long), (cM, .array .int), (cZ, .boolean)] sz (sc_B_late cI cL cM cZ q_p0 q_p0_text q_p0_names q_p0_calendars q_p0_priorities q_p0_starts q_p0_estimates q_p0_many q_p0_newNames q_p0_numbers q_p0_newMany q_p0_needs q_p0_conditions q_p0_newNeeds q_p0_newConditions q_p0_needPlaces q_p0_rules q_p0_of q_p0_holidays q_p0_states q_p0_ran q_p0_sums q_p0_kept q_p0_startedJob q_p0_startedAt q_p0_ring q_p0_came q_p0_level q_p0_again q_p0_way q_p0_before q_p0_path v_p0_code v_p0_length v_p0_jobs v_p0_newJobs v_p0_made v_p0_days v_p0_now v_p0_started v_p0_ringSize v_p0_place f_p0_starts f_p0_estimates f_p0_states f_p0_ran f_p0_sums f_p0_kept) o.1 (sc_B_late cI cL cM cZ q_p0 q_p0_text q_p0_names q_p0_calendars q_p0_priorities q_p0_starts q_p0_estimates q_p0_many q_p0_newNames q_p0_numbers q_p0_newMany q_p0_needs q_p0_conditions q_p0_newNeeds q_p0_newConditions q_p0_needPlaces q_p0_rules q_p0_of q_p0_holidays q_p0_states q_p0_ran q_p0_sums q_p0_kept q_p0_startedJob q_p0_startedAt q_p0_ring q_p0_came q_p0_level q_p0_again q_p0_way q_p0_before q_p0_path o.2 v_p0_length v_p0_jobs v_p0_newJobs v_p0_made v_p0_days v_p0_now v_p0_started v_p0_ringSize v_p0_place f_p0_starts f_p0_estimates f_p0_states f_p0_ran f_p0_sums f_p0_kept)) 0 0 (va_A ((sc_B_late cI cL cM cZ q_p0 q_p0_text q_p0_names q_p0_calendars q_p0_priorities q_p0_starts q_p0_estimates q_p0_many q_p0_newNames q_p0_numbers q_p0_newMany q_p0_needs q_p0_conditions q_p0_newNeeds q_p0_newConditions q_p0_needPlaces q_p0_rules q_p0_of q_p0_holidays q_p0_states q_p0_ran q_p0_sums q_p0_kept q_p0_startedJob q_p0_startedAt q_p0_ring q_p0_came q_p0_level q_p0_again q_p0_way q_p0_before q_p0_path v_p0_code v_p0_length v_p0_jobs v_p0_newJobs v_p0_made v_p0_days v_p0_now v_p0_started v_p0_ringSize v_p0_place f_p0_starts f_p0_estimates f_p0_states f_p0_ran f_p0_sums f_p0_kept)).flatten sz) := by
  refine sg_met (fun sz => cQi (dC, dI) vwCl [(cI, .int), (cL, .long), (cM, .array .int), (cZ, .boolean)] sz (sc_B_late cI cL cM cZ q_p0 q_p0_text q_p0_names q_p0_calendars q_p0_priorities q_p0_starts q_p0_estimates q_p0_many q_p0_newNames q_p0_numbers q_p0_newMany q_p0_needs q_p0_conditions q_p0_newNeeds q_p0_newConditions q_p0_needPlaces q_p0_rules q_p0_of q_p0_holidays q_p0_states q_p0_ran q_p0_sums q_p0_kept q_p0_startedJob q_p0_startedAt q_p0_ring q_p0_came q_p0_level q_p0_again q_p0_way q_p0_before q_p0_path v_p0_code v_p0_length v_p0_jobs v_p0_newJobs v_p0_made v_p0_days v_p0_now v_p0_started v_p0_ringSize v_p0_place f_p0_starts f_p0_estimates f_p0_states f_p0_ran f_p0_sums f_p0_kept) o.1 (sc_B_late cI cL cM cZ q_p0 q_p0_text q_p0_names q_p0_calendars q_p0_priorities q_p0_starts q_p0_estimates q_p0_many q_p0_newNames q_p0_numbers q_p0_newMany q_p0_needs q_p0_conditions q_p0_newNeeds q_p0_newConditions q_p0_needPlaces q_p0_rules q_p0_of q_p0_holidays q_p0_states q_p0_ran q_p0_sums q_p0_kept q_p0_startedJob q_p0_startedAt q_p0_ring q_p0_came q_p0_level q_p0_again q_p0_way q_p0_before q_p0_path o.2 v_p0_length v_p0_jobs v_p0_newJobs v_p0_made v_p0_days v_p0_now v_p0_started v_p0_ringSize v_p0_place f_p0_starts f_p0_estimates f_p0_states f_p0_ran f_p0_sums f_p0_kept)) (by decide) (Nat.le_of_ble_eq_true rfl) ?_
  intro p e s m args below meth c A Q ls hx hb hr hts hown hlocks hml hname hK hNW hA hAe hQ hw hl
  have hl : lv_has ls 9 [(0, .ref q_p0), (1, .long a1_x), (3, .int a2_x)] := hl
  have hw : wk (dC, dI) vwCl A s.heap [[(q_p0, .inr (9, [.int v_p0_code, .ref q_p0_text, .int v_p0_length, .int v_p0_jobs, .int v_p0_newJobs, .ref q_p0_names, .ref q_p0_calendars, .ref q_p0_priorities, .ref q_p0_starts, .ref q_p0_estimates, .ref q_p0_many, .ref q_p0_newNames, .ref q_p0_numbers, .ref q_p0_newMany, .ref q_p0_needs, .ref q_p0_conditions, .ref q_p0_newNeeds, .ref q_p0_newConditions, .ref q_p0_needPlaces, .ref q_p0_rules, .ref q_p0_of, .int v_p0_made, .ref q_p0_holidays, .int v_p0_days, .ref q_p0_states, .ref q_p0_ran, .ref q_p0_sums, .ref q_p0_kept, .long v_p0_now, .ref q_p0_startedJob, .ref q_p0_startedAt, .int v_p0_started, .ref q_p0_ring, .ref q_p0_came, .ref q_p0_level, .int v_p0_ringSize, .ref q_p0_again, .ref q_p0_way, .ref q_p0_before, .ref q_p0_path, .int v_p0_place]))], [(q_p0_starts, .inl (cI, 27, .inl f_p0_starts))], [(q_p0_estimates, .inl (cI, 27, .inl f_p0_estimates))], [(q_p0_states, .inl (cI, 27, .inl f_p0_states))], [(q_p0_ran, .inl (cL, 27, .inr (.inl f_p0_ran)))], [(q_p0_sums, .inl (cL, 27, .inr (.inl f_p0_sums)))], [(q_p0_kept, .inl (cI, 27, .inl f_p0_kept))]] s.heap [] := hw
  unfold md_B_late at hm
  refine lv_aload_n hx hb d_B_late_0 rfl (lv_at hl 0 rfl) ?_
  refine lv_iconst (v := 0) hx hb d_B_late_1 (by decide) ?_
  refine sg_put (D := (dC, dI)) (ci := 9) (v := .int (0 : Int32)) (ty := .int) (C := "JobNetsModel") (T := T_9) (N := 41) (S1 := [[(q_p0, .inr (9, [.int (0 : Int32), .ref q_p0_text, .int v_p0_length, .int v_p0_jobs, .int v_p0_newJobs, .ref q_p0_names, .ref q_p0_calendars, .ref q_p0_priorities, .ref q_p0_starts, .ref q_p0_estimates, .ref q_p0_many, .ref q_p0_newNames, .ref q_p0_numbers, .ref q_p0_newMany, .ref q_p0_needs, .ref q_p0_conditions, .ref q_p0_newNeeds, .ref q_p0_newConditions, .ref q_p0_needPlaces, .ref q_p0_rules, .ref q_p0_of, .int v_p0_made, .ref q_p0_holidays, .int v_p0_days, .ref q_p0_states, .ref q_p0_ran, .ref q_p0_sums, .ref q_p0_kept, .long v_p0_now, .ref q_p0_startedJob, .ref q_p0_startedAt, .int v_p0_started, .ref q_p0_ring, .ref q_p0_came, .ref q_p0_level, .int v_p0_ringSize, .ref q_p0_again, .ref q_p0_way, .ref q_p0_before, .ref q_p0_path, .int v_p0_place]))], [(q_p0_starts, .inl (cI, 27, .inl f_p0_starts))], [(q_p0_estimates, .inl (cI, 27, .inl f_p0_estimates))], [(q_p0_states, .inl (cI, 27, .inl f_p0_states))], [(q_p0_ran, .inl (cL, 27, .inr (.inl f_p0_ran)))], [(q_p0_sums, .inl (cL, 27, .inr (.inl f_p0_sums)))], [(q_p0_kept, .inl (cI, 27, .inl f_p0_kept))]]) hx hb hts hin_9 ty_9 tok_9 nd_9 hown hK hw 0 rfl rfl 0 (by decide) (hts _ wd_616) rfl rfl (by decide +kernel) rfl rfl (Nat.le_of_ble_eq_true rfl) rfl d_B_late_2 (fun H locs hw => ?_)
  refine lv_iconst (v := 0) hx hb d_B_late_5 (by decide) ?_
  refine lv_istore (lv' := [(4, .int (0 : Int32)), (0, .ref q_p0), (1, .long a1_x), (3, .int a2_x)]) hx hb d_B_late_6 hl (by decide) rfl (fun ls hl => ?_)
  refine lv_iconst (v := 1) hx hb d_B_late_8 (by decide) ?_
  refine lv_istore (lv' := [(5, .int (1 : Int32)), (4, .int (0 : Int32)), (0, .ref q_p0), (1, .long a1_x), (3, .int a2_x)]) hx hb d_B_late_9 hl (by decide) rfl (fun ls hl => ?_)
  obtain ⟨Fn11, hFn11, hm⟩ := fx2_x hm
  have L11 : ∀ (n : Nat) (x1 : Int32) (x2 : Int32), fx2 Fn11 n x1 x2 = some o → ∀ (H : Heap) (locs : List Loc) (ls : Array Slot), wk (dC, dI) vwCl A s.heap [[(q_p0, .inr (9, [.int (0 : Int32), .ref q_p0_text, .int v_p0_length, .int v_p0_jobs, .int v_p0_newJobs, .ref q_p0_names, .ref q_p0_calendars, .ref q_p0_priorities, .ref q_p0_starts, .ref q_p0_estimates, .ref q_p0_many, .ref q_p0_newNames, .ref q_p0_numbers, .ref q_p0_newMany, .ref q_p0_needs, .ref q_p0_conditions, .ref q_p0_newNeeds, .ref q_p0_newConditions, .ref q_p0_needPlaces, .ref q_p0_rules, .ref q_p0_of, .int v_p0_made, .ref q_p0_holidays, .int v_p0_days, .ref q_p0_states, .ref q_p0_ran, .ref q_p0_sums, .ref q_p0_kept, .long v_p0_now, .ref q_p0_startedJob, .ref q_p0_startedAt, .int v_p0_started, .ref q_p0_ring, .ref q_p0_came, .ref q_p0_level, .int v_p0_ringSize, .ref q_p0_again, .ref q_p0_way, .ref q_p0_before, .ref q_p0_path, .int v_p0_place]))], [(q_p0_starts, .inl (cI, 27, .inl f_p0_starts))], [(q_p0_estimates, .inl (cI, 27, .inl f_p0_estimates))], [(q_p0_states, .inl (cI, 27, .inl f_p0_states))], [(q_p0_ran, .inl (cL, 27, .inr (.inl f_p0_ran)))], [(q_p0_sums, .inl (cL, 27, .inr (.inl f_p0_sums)))], [(q_p0_kept, .inl (cI, 27, .inl f_p0_kept))]] H locs → lv_has ls 9 [(5, .int x1), (4, .int x2), (0, .ref q_p0), (1, .long a1_x), (3, .int a2_x)] → W p l e rm_B_late s m args below meth c H locs 0 0 Q (F0 m 11 ls []) := by
    intro n
    induction n with
    | zero => intro x1 x2 hm; exact (fx2_0 hm).elim
    | succ n ih11 =>
      intro x1 x2 hm H locs ls hw hl
      have hm := fx2_s hFn11 hm
      unfold md_B_late_F11 at hm
      refine lv_iload hx hb d_B_late_11 (lv_at hl 0 rfl) ?_
      refine lv_aload_n hx hb d_B_late_13 rfl (lv_at hl 2 rfl) ?_
      refine sg_get (D := (dC, dI)) (ci := 9) (v := .int v_p0_jobs) (C := "JobNetsModel") (T := T_9) (N := 41) hx hb hts hin_9 hown hK hw 0 rfl rfl 3 (by decide) (hts _ wd_619) rfl rfl d_B_late_14 ?_
      refine bq_t (lv_icmp_gt (tgt := 145) hx hb d_B_late_17 (by decide)) hm (fun hm => ?_) (fun hm => ?_)
      · refine lv_iconst (v := 0) hx hb d_B_late_145 (by decide) ?_
        exact so_iret (rf := fun z_ => z_.1) (Sf := fun z_ => sc_B_late cI cL cM cZ q_p0 q_p0_text q_p0_names q_p0_calendars q_p0_priorities q_p0_starts q_p0_estimates q_p0_many q_p0_newNames q_p0_numbers q_p0_newMany q_p0_needs q_p0_conditions q_p0_newNeeds q_p0_newConditions q_p0_needPlaces q_p0_rules q_p0_of q_p0_holidays q_p0_states q_p0_ran q_p0_sums q_p0_kept q_p0_startedJob q_p0_startedAt q_p0_ring q_p0_came q_p0_level q_p0_again q_p0_way q_p0_before q_p0_path z_.2 v_p0_length v_p0_jobs v_p0_newJobs v_p0_made v_p0_days v_p0_now v_p0_started v_p0_ringSize v_p0_place f_p0_starts f_p0_estimates f_p0_states f_p0_ran f_p0_sums f_p0_kept) hm hx hb hr hlocks hAe hQ hK hw rfl d_B_late_146
      · refine lv_aload_n hx hb d_B_late_20 rfl (lv_at hl 2 rfl) ?_
        refine sg_get (D := (dC, dI)) (ci := 9) (v := .ref q_p0_kept) (C := "JobNetsModel") (T := T_9) (N := 41) hx hb hts hin_9 hown hK hw 0 rfl rfl 27 (by decide) (hts _ wd_643) rfl rfl d_B_late_21 ?_
        refine lv_iload hx hb d_B_late_24 (lv_at hl 0 rfl) ?_
        refine sg_iald hx hb hK hw 6 0 rfl rfl d_B_late_26 hm (fun hm => ?_)
        obtain ⟨k57, hk57, hm⟩ := zl_x hm
        have J57 : ∀ (x3 : Int64) , k57 x3 = some o → ∀ (H : Heap) (locs : List Loc) (ls : Array Slot), wk (dC, dI) vwCl A s.heap [[(q_p0, .inr (9, [.int (0 : Int32), .ref q_p0_text, .int v_p0_length, .int v_p0_jobs, .int v_p0_newJobs, .ref q_p0_names, .ref q_p0_calendars, .ref q_p0_priorities, .ref q_p0_starts, .ref q_p0_estimates, .ref q_p0_many, .ref q_p0_newNames, .ref q_p0_numbers, .ref q_p0_newMany, .ref q_p0_needs, .ref q_p0_conditions, .ref q_p0_newNeeds, .ref q_p0_newConditions, .ref q_p0_needPlaces, .ref q_p0_rules, .ref q_p0_of, .int v_p0_made, .ref q_p0_holidays, .int v_p0_days, .ref q_p0_states, .ref q_p0_ran, .ref q_p0_sums, .ref q_p0_kept, .long v_p0_now, .ref q_p0_startedJob, .ref q_p0_startedAt, .int v_p0_started, .ref q_p0_ring, .ref q_p0_came, .ref q_p0_level, .int v_p0_ringSize, .ref q_p0_again, .ref q_p0_way, .ref q_p0_before, .ref q_p0_path, .int v_p0_place]))], [(q_p0_starts, .inl (cI, 27, .inl f_p0_starts))], [(q_p0_estimates, .inl (cI, 27, .inl f_p0_estimates))], [(q_p0_states, .inl (cI, 27, .inl f_p0_states))], [(q_p0_ran, .inl (cL, 27, .inr (.inl f_p0_ran)))], [(q_p0_sums, .inl (cL, 27, .inr (.inl f_p0_sums)))], [(q_p0_kept, .inl (cI, 27, .inl f_p0_kept))]] H locs → lv_has ls 9 [(5, .int x1), (4, .int x2), (0, .ref q_p0), (1, .long a1_x), (3, .int a2_x)] → W p l e rm_B_late s m args below meth c H locs 0 0 Q (F0 m 57 ls [.long x3]) := by
          intro x3 hm H locs ls hw hl
          subst hk57
          refine lv_lstore (lv' := [(6, .long x3), (5, .int x1), (4, .int x2), (0, .ref q_p0), (1, .long a1_x), (3, .int a2_x)]) hx hb d_B_late_57 hl (by decide) rfl (fun ls hl => ?_)
          refine lv_aload_n hx hb d_B_late_59 rfl (lv_at hl 3 rfl) ?_
          refine sg_get (D := (dC, dI)) (ci := 9) (v := .ref q_p0_states) (C := "JobNetsModel") (T := T_9) (N := 41) hx hb hts hin_9 hown hK hw 0 rfl rfl 24 (by decide) (hts _ wd_640) rfl rfl d_B_late_60 ?_
          refine lv_iload hx hb d_B_late_63 (lv_at hl 1 rfl) ?_
          refine sg_iald hx hb hK hw 3 0 rfl rfl d_B_late_65 hm (fun hm => ?_)
          refine lv_iconst (v := 2) hx hb d_B_late_66 (by decide) ?_
          obtain ⟨k112, hk112, hm⟩ := zl_x hm
          have J112 : k112 = some o → ∀ (H : Heap) (locs : List Loc) (ls : Array Slot), wk (dC, dI) vwCl A s.heap [[(q_p0, .inr (9, [.int (0 : Int32), .ref q_p0_text, .int v_p0_length, .int v_p0_jobs, .int v_p0_newJobs, .ref q_p0_names, .ref q_p0_calendars, .ref q_p0_priorities, .ref q_p0_starts, .ref q_p0_estimates, .ref q_p0_many, .ref q_p0_newNames, .ref q_p0_numbers, .ref q_p0_newMany, .ref q_p0_needs, .ref q_p0_conditions, .ref q_p0_newNeeds, .ref q_p0_newConditions, .ref q_p0_needPlaces, .ref q_p0_rules, .ref q_p0_of, .int v_p0_made, .ref q_p0_holidays, .int v_p0_days, .ref q_p0_states, .ref q_p0_ran, .ref q_p0_sums, .ref q_p0_kept, .long v_p0_now, .ref q_p0_startedJob, .ref q_p0_startedAt, .int v_p0_started, .ref q_p0_ring, .ref q_p0_came, .ref q_p0_level, .int v_p0_ringSize, .ref q_p0_again, .ref q_p0_way, .ref q_p0_before, .ref q_p0_path, .int v_p0_place]))], [(q_p0_starts, .inl (cI, 27, .inl f_p0_starts))], [(q_p0_estimates, .inl (cI, 27, .inl f_p0_estimates))], [(q_p0_states, .inl (cI, 27, .inl f_p0_states))], [(q_p0_ran, .inl (cL, 27, .inr (.inl f_p0_ran)))], [(q_p0_sums, .inl (cL, 27, .inr (.inl f_p0_sums)))], [(q_p0_kept, .inl (cI, 27, .inl f_p0_kept))]] H locs → lv_has ls 9 [(5, .int x1), (4, .int x2), (0, .ref q_p0), (1, .long a1_x), (3, .int a2_x)] → W p l e rm_B_late s m args below meth c H locs 0 0 Q (F0 m 112 ls []) := by
            intro hm H locs ls hw hl
            subst hk112
            refine lv_iconst (v := 1) hx hb d_B_late_112 (by decide) ?_
            refine lv_goto (tgt := 117) hx hb d_B_late_113 (by decide) ?_
            refine lv_istore (lv' := [(8, .int (1 : Int32)), (5, .int x1), (4, .int x2), (0, .ref q_p0), (1, .long a1_x), (3, .int a2_x)]) hx hb d_B_late_117 hl (by decide) rfl (fun ls hl => ?_)
            refine lv_iload hx hb d_B_late_119 (lv_at hl 0 rfl) ?_
            refine bq_n (lv_if_ne (tgt := 127) hx hb d_B_late_121 (by decide)) hm (fun hm => ?_) (fun hm => ?_)
            · refine lv_iload hx hb d_B_late_127 (lv_at hl 2 rfl) ?_
              refine lv_iload_n hx hb d_B_late_129 rfl (lv_at hl 5 rfl) ?_
              refine bq_n (lv_icmp_ne (tgt := 136) hx hb d_B_late_130 (by decide)) hm (fun hm => ?_) (fun hm => ?_)
              · refine lv_iinc (v := x2 + 1) (lv' := [(4, .int (x2 + 1)), (8, .int (1 : Int32)), (5, .int x1), (0, .ref q_p0), (1, .long a1_x), (3, .int a2_x)]) hx hb d_B_late_136 hl (k := 2) rfl rfl (by decide) rfl (fun ls hl => ?_)
                refine lv_iinc (v := x1 + 1) (lv' := [(5, .int (x1 + 1)), (4, .int (x2 + 1)), (8, .int (1 : Int32)), (0, .ref q_p0), (1, .long a1_x), (3, .int a2_x)]) hx hb d_B_late_139 hl (k := 2) rfl rfl (by decide) rfl (fun ls hl => ?_)
                refine lv_goto (tgt := 11) hx hb d_B_late_142 (by decide) ?_
                exact ih11 (x1 + 1) (x2 + 1) hm _ _ _ hw (lv_sub hl [0, 1, 3, 4, 5] rfl)
              · refine lv_iload hx hb d_B_late_133 (lv_at hl 1 rfl) ?_
                exact so_iret (rf := fun z_ => z_.1) (Sf := fun z_ => sc_B_late cI cL cM cZ q_p0 q_p0_text q_p0_names q_p0_calendars q_p0_priorities q_p0_starts q_p0_estimates q_p0_many q_p0_newNames q_p0_numbers q_p0_newMany q_p0_needs q_p0_conditions q_p0_newNeeds q_p0_newConditions q_p0_needPlaces q_p0_rules q_p0_of q_p0_holidays q_p0_states q_p0_ran q_p0_sums q_p0_kept q_p0_startedJob q_p0_startedAt q_p0_ring q_p0_came q_p0_level q_p0_again q_p0_way q_p0_before q_p0_path z_.2 v_p0_length v_p0_jobs v_p0_newJobs v_p0_made v_p0_days v_p0_now v_p0_started v_p0_ringSize v_p0_place f_p0_starts f_p0_estimates f_p0_states f_p0_ran f_p0_sums f_p0_kept) hm hx hb hr hlocks hAe hQ hK hw rfl d_B_late_135
            · refine lv_goto (tgt := 139) hx hb d_B_late_124 (by decide) ?_
              refine lv_iinc (v := x1 + 1) (lv' := [(5, .int (x1 + 1)), (8, .int (1 : Int32)), (4, .int x2), (0, .ref q_p0), (1, .long a1_x), (3, .int a2_x)]) hx hb d_B_late_139 hl (k := 1) rfl rfl (by decide) rfl (fun ls hl => ?_)
              refine lv_goto (tgt := 11) hx hb d_B_late_142 (by decide) ?_
              exact ih11 (x1 + 1) x2 hm _ _ _ hw (lv_sub hl [0, 2, 3, 4, 5] rfl)
          obtain ⟨k85, hk85, hm⟩ := zl_x hm
          have J85 : k85 = some o → ∀ (H : Heap) (locs : List Loc) (ls : Array Slot), wk (dC, dI) vwCl A s.heap [[(q_p0, .inr (9, [.int (0 : Int32), .ref q_p0_text, .int v_p0_length, .int v_p0_jobs, .int v_p0_newJobs, .ref q_p0_names, .ref q_p0_calendars, .ref q_p0_priorities, .ref q_p0_starts, .ref q_p0_estimates, .ref q_p0_many, .ref q_p0_newNames, .ref q_p0_numbers, .ref q_p0_newMany, .ref q_p0_needs, .ref q_p0_conditions, .ref q_p0_newNeeds, .ref q_p0_newConditions, .ref q_p0_needPlaces, .ref q_p0_rules, .ref q_p0_of, .int v_p0_made, .ref q_p0_holidays, .int v_p0_days, .ref q_p0_states, .ref q_p0_ran, .ref q_p0_sums, .ref q_p0_kept, .long v_p0_now, .ref q_p0_startedJob, .ref q_p0_startedAt, .int v_p0_started, .ref q_p0_ring, .ref q_p0_came, .ref q_p0_level, .int v_p0_ringSize, .ref q_p0_again, .ref q_p0_way, .ref q_p0_before, .ref q_p0_path, .int v_p0_place]))], [(q_p0_starts, .inl (cI, 27, .inl f_p0_starts))], [(q_p0_estimates, .inl (cI, 27, .inl f_p0_estimates))], [(q_p0_states, .inl (cI, 27, .inl f_p0_states))], [(q_p0_ran, .inl (cL, 27, .inr (.inl f_p0_ran)))], [(q_p0_sums, .inl (cL, 27, .inr (.inl f_p0_sums)))], [(q_p0_kept, .inl (cI, 27, .inl f_p0_kept))]] H locs → lv_has ls 9 [(6, .long x3), (5, .int x1), (4, .int x2), (0, .ref q_p0), (1, .long a1_x), (3, .int a2_x)] → W p l e rm_B_late s m args below meth c H locs 0 0 Q (F0 m 85 ls []) := by
            intro hm H locs ls hw hl
            subst hk85
            refine lv_aload_n hx hb d_B_late_85 rfl (lv_at hl 3 rfl) ?_
            refine sg_get (D := (dC, dI)) (ci := 9) (v := .ref q_p0_states) (C := "JobNetsModel") (T := T_9) (N := 41) hx hb hts hin_9 hown hK hw 0 rfl rfl 24 (by decide) (hts _ wd_640) rfl rfl d_B_late_86 ?_
            refine lv_iload hx hb d_B_late_89 (lv_at hl 1 rfl) ?_
            refine sg_iald hx hb hK hw 3 0 rfl rfl d_B_late_91 hm (fun hm => ?_)
            refine lv_iconst (v := 1) hx hb d_B_late_92 (by decide) ?_
            obtain ⟨k116, hk116, hm⟩ := zl_x hm
            have J116 : k116 = some o → ∀ (H : Heap) (locs : List Loc) (ls : Array Slot), wk (dC, dI) vwCl A s.heap [[(q_p0, .inr (9, [.int (0 : Int32), .ref q_p0_text, .int v_p0_length, .int v_p0_jobs, .int v_p0_newJobs, .ref q_p0_names, .ref q_p0_calendars, .ref q_p0_priorities, .ref q_p0_starts, .ref q_p0_estimates, .ref q_p0_many, .ref q_p0_newNames, .ref q_p0_numbers, .ref q_p0_newMany, .ref q_p0_needs, .ref q_p0_conditions, .ref q_p0_newNeeds, .ref q_p0_newConditions, .ref q_p0_needPlaces, .ref q_p0_rules, .ref q_p0_of, .int v_p0_made, .ref q_p0_holidays, .int v_p0_days, .ref q_p0_states, .ref q_p0_ran, .ref q_p0_sums, .ref q_p0_kept, .long v_p0_now, .ref q_p0_startedJob, .ref q_p0_startedAt, .int v_p0_started, .ref q_p0_ring, .ref q_p0_came, .ref q_p0_level, .int v_p0_ringSize, .ref q_p0_again, .ref q_p0_way, .ref q_p0_before, .ref q_p0_path, .int v_p0_place]))], [(q_p0_starts, .inl (cI, 27, .inl f_p0_starts))], [(q_p0_estimates, .inl (cI, 27, .inl f_p0_estimates))], [(q_p0_states, .inl (cI, 27, .inl f_p0_states))], [(q_p0_ran, .inl (cL, 27, .inr (.inl f_p0_ran)))], [(q_p0_sums, .inl (cL, 27, .inr (.inl f_p0_sums)))], [(q_p0_kept, .inl (cI, 27, .inl f_p0_kept))]] H locs → lv_has ls 9 [(5, .int x1), (4, .int x2), (0, .ref q_p0), (1, .long a1_x), (3, .int a2_x)] → W p l e rm_B_late s m args below meth c H locs 0 0 Q (F0 m 116 ls []) := by
              intro hm H locs ls hw hl
              subst hk116
              refine lv_iconst (v := 0) hx hb d_B_late_116 (by decide) ?_
              refine lv_istore (lv' := [(8, .int (0 : Int32)), (5, .int x1), (4, .int x2), (0, .ref q_p0), (1, .long a1_x), (3, .int a2_x)]) hx hb d_B_late_117 hl (by decide) rfl (fun ls hl => ?_)
              refine lv_iload hx hb d_B_late_119 (lv_at hl 0 rfl) ?_
              refine bq_n (lv_if_ne (tgt := 127) hx hb d_B_late_121 (by decide)) hm (fun hm => ?_) (fun hm => ?_)
              · refine lv_iload hx hb d_B_late_127 (lv_at hl 2 rfl) ?_
                refine lv_iload_n hx hb d_B_late_129 rfl (lv_at hl 5 rfl) ?_
                refine bq_n (lv_icmp_ne (tgt := 136) hx hb d_B_late_130 (by decide)) hm (fun hm => ?_) (fun hm => ?_)
                · refine lv_iinc (v := x2 + 1) (lv' := [(4, .int (x2 + 1)), (8, .int (0 : Int32)), (5, .int x1), (0, .ref q_p0), (1, .long a1_x), (3, .int a2_x)]) hx hb d_B_late_136 hl (k := 2) rfl rfl (by decide) rfl (fun ls hl => ?_)
                  refine lv_iinc (v := x1 + 1) (lv' := [(5, .int (x1 + 1)), (4, .int (x2 + 1)), (8, .int (0 : Int32)), (0, .ref q_p0), (1, .long a1_x), (3, .int a2_x)]) hx hb d_B_late_139 hl (k := 2) rfl rfl (by decide) rfl (fun ls hl => ?_)
                  refine lv_goto (tgt := 11) hx hb d_B_late_142 (by decide) ?_
                  exact ih11 (x1 + 1) (x2 + 1) hm _ _ _ hw (lv_sub hl [0, 1, 3, 4, 5] rfl)
                · refine lv_iload hx hb d_B_late_133 (lv_at hl 1 rfl) ?_
                  exact so_iret (rf := fun z_ => z_.1) (Sf := fun z_ => sc_B_late cI cL cM cZ q_p0 q_p0_text q_p0_names q_p0_calendars q_p0_priorities q_p0_starts q_p0_estimates q_p0_many q_p0_newNames q_p0_numbers q_p0_newMany q_p0_needs q_p0_conditions q_p0_newNeeds q_p0_newConditions q_p0_needPlaces q_p0_rules q_p0_of q_p0_holidays q_p0_states q_p0_ran q_p0_sums q_p0_kept q_p0_startedJob q_p0_startedAt q_p0_ring q_p0_came q_p0_level q_p0_again q_p0_way q_p0_before q_p0_path z_.2 v_p0_length v_p0_jobs v_p0_newJobs v_p0_made v_p0_days v_p0_now v_p0_started v_p0_ringSize v_p0_place f_p0_starts f_p0_estimates f_p0_states f_p0_ran f_p0_sums f_p0_kept) hm hx hb hr hlocks hAe hQ hK hw rfl d_B_late_135
              · refine lv_goto (tgt := 139) hx hb d_B_late_124 (by decide) ?_
                refine lv_iinc (v := x1 + 1) (lv' := [(5, .int (x1 + 1)), (8, .int (0 : Int32)), (4, .int x2), (0, .ref q_p0), (1, .long a1_x), (3, .int a2_x)]) hx hb d_B_late_139 hl (k := 1) rfl rfl (by decide) rfl (fun ls hl => ?_)
                refine lv_goto (tgt := 11) hx hb d_B_late_142 (by decide) ?_
                exact ih11 (x1 + 1) x2 hm _ _ _ hw (lv_sub hl [0, 2, 3, 4, 5] rfl)
            refine bq_n (lv_icmp_ne (tgt := 116) hx hb d_B_late_93 (by decide)) hm (fun hm => ?_) (fun hm => ?_)
            · exact J116  hm _ _ _ hw (lv_sub hl [1, 2, 3, 4, 5] rfl)
            · refine lv_lload_n hx hb d_B_late_96 rfl (lv_at hl 4 rfl) ?_
              refine lv_aload_n hx hb d_B_late_97 rfl (lv_at hl 3 rfl) ?_
              refine sg_get (D := (dC, dI)) (ci := 9) (v := .ref q_p0_starts) (C := "JobNetsModel") (T := T_9) (N := 41) hx hb hts hin_9 hown hK hw 0 rfl rfl 8 (by decide) (hts _ wd_624) rfl rfl d_B_late_98 ?_
              refine lv_iload hx hb d_B_late_101 (lv_at hl 1 rfl) ?_
              refine sg_iald hx hb hK hw 1 0 rfl rfl d_B_late_103 hm (fun hm => ?_)
              refine lv_i2l hx hb d_B_late_104 rfl ?_
              refine lv_lload hx hb d_B_late_105 (lv_at hl 0 rfl) ?_
              refine lv_ladd hx hb d_B_late_107 ?_
              refine W.lcmp hx hb d_B_late_108 ?_
              refine bq_t (lv_if_le (tgt := 116) hx hb d_B_late_109 (by decide)) hm (fun hm => ?_) (fun hm => ?_)
              · exact J116  hm _ _ _ hw (lv_sub hl [1, 2, 3, 4, 5] rfl)
              · exact J112  hm _ _ _ hw (lv_sub hl [1, 2, 3, 4, 5] rfl)
          refine bq_n (lv_icmp_ne (tgt := 85) hx hb d_B_late_67 (by decide)) hm (fun hm => ?_) (fun hm => ?_)
          · exact J85  hm _ _ _ hw hl
          · refine lv_lload_n hx hb d_B_late_70 rfl (lv_at hl 4 rfl) ?_
            refine lv_aload_n hx hb d_B_late_71 rfl (lv_at hl 3 rfl) ?_
            refine sg_get (D := (dC, dI)) (ci := 9) (v := .ref q_p0_ran) (C := "JobNetsModel") (T := T_9) (N := 41) hx hb hts hin_9 hown hK hw 0 rfl rfl 25 (by decide) (hts _ wd_641) rfl rfl d_B_late_72 ?_
            refine lv_iload hx hb d_B_late_75 (lv_at hl 1 rfl) ?_
            refine sg_lald hx hb hK hw 4 1 rfl rfl d_B_late_77 hm (fun hm => ?_)
            refine lv_lload hx hb d_B_late_78 (lv_at hl 0 rfl) ?_
            refine lv_ladd hx hb d_B_late_80 ?_
            refine W.lcmp hx hb d_B_late_81 ?_
            refine bq_t (lv_if_gt (tgt := 112) hx hb d_B_late_82 (by decide)) hm (fun hm => ?_) (fun hm => ?_)
            · exact J112  hm _ _ _ hw (lv_sub hl [1, 2, 3, 4, 5] rfl)
            · exact J85  hm _ _ _ hw hl
        refine bq_n (lv_if_ne (tgt := 41) hx hb d_B_late_27 (by decide)) hm (fun hm => ?_) (fun hm => ?_)
        · refine lv_aload_n hx hb d_B_late_41 rfl (lv_at hl 2 rfl) ?_
          refine sg_get (D := (dC, dI)) (ci := 9) (v := .ref q_p0_sums) (C := "JobNetsModel") (T := T_9) (N := 41) hx hb hts hin_9 hown hK hw 0 rfl rfl 26 (by decide) (hts _ wd_642) rfl rfl d_B_late_42 ?_
          refine lv_iload hx hb d_B_late_45 (lv_at hl 0 rfl) ?_
          refine sg_lald hx hb hK hw 5 1 rfl rfl d_B_late_47 hm (fun hm => ?_)
          refine lv_aload_n hx hb d_B_late_48 rfl (lv_at hl 2 rfl) ?_
          refine sg_get (D := (dC, dI)) (ci := 9) (v := .ref q_p0_kept) (C := "JobNetsModel") (T := T_9) (N := 41) hx hb hts hin_9 hown hK hw 0 rfl rfl 27 (by decide) (hts _ wd_643) rfl rfl d_B_late_49 ?_
          refine lv_iload hx hb d_B_late_52 (lv_at hl 0 rfl) ?_
          refine sg_iald hx hb hK hw 6 0 rfl rfl d_B_late_54 hm (fun hm => ?_)
          refine lv_i2l hx hb d_B_late_55 rfl ?_
          obtain ⟨hne, hm⟩ := it_n hm
          refine lv_ldiv hx hb d_B_late_56 hne ?_
          exact J57 ((f_p0_sums x1.toNatClampNeg) / ((f_p0_kept x1.toNatClampNeg).toInt64)) hm _ _ _ hw hl
        · refine lv_aload_n hx hb d_B_late_30 rfl (lv_at hl 2 rfl) ?_
          refine sg_get (D := (dC, dI)) (ci := 9) (v := .ref q_p0_estimates) (C := "JobNetsModel") (T := T_9) (N := 41) hx hb hts hin_9 hown hK hw 0 rfl rfl 9 (by decide) (hts _ wd_625) rfl rfl d_B_late_31 ?_
          refine lv_iload hx hb d_B_late_34 (lv_at hl 0 rfl) ?_
          refine sg_iald hx hb hK hw 2 0 rfl rfl d_B_late_36 hm (fun hm => ?_)
          refine lv_i2l hx hb d_B_late_37 rfl ?_
          refine lv_goto (tgt := 57) hx hb d_B_late_38 (by decide) ?_
          exact J57 ((f_p0_estimates x1.toNatClampNeg).toInt64) hm _ _ _ hw hl
  exact L11 _ _ _ hm _ _ _ hw hl
theorem d_B_state_0 : decode prog_11_method_34_code 0 = .ok (.aload_n 0, 1) := by decide +kernel
theorem d_B_state_1 : decode prog_11_method_34_code 1 = .ok (.iconst 0, 1) := by decide +kernel
theorem d_B_state_2 : decode prog_11_method_34_code 2 = .ok (.putfield 105, 3) := by decide +kernel
theorem d_B_state_5 : decode prog_11_method_34_code 5 = .ok (.aload_n 0, 1) := by decide +kernel
theorem d_B_state_6 : decode prog_11_method_34_code 6 = .ok (.iload_n 1, 1) := by decide +kernel
theorem d_B_state_7 : decode prog_11_method_34_code 7 = .ok (.invokevirtual 170, 3) := by decide +kernel
theorem d_B_state_10 : decode prog_11_method_34_code 10 = .ok (.ifCond .eq 12, 3) := by decide +kernel
theorem d_B_state_13 : decode prog_11_method_34_code 13 = .ok (.aload_n 0, 1) := by decide +kernel
theorem d_B_state_14 : decode prog_11_method_34_code 14 = .ok (.getfield 65, 3) := by decide +kernel
theorem d_B_state_17 : decode prog_11_method_34_code 17 = .ok (.iload_n 1, 1) := by decide +kernel
theorem d_B_state_18 : decode prog_11_method_34_code 18 = .ok (.iaload, 1) := by decide +kernel
theorem d_B_state_19 : decode prog_11_method_34_code 19 = .ok (.goto 4, 3) := by decide +kernel
theorem d_B_state_22 : decode prog_11_method_34_code 22 = .ok (.iconst (-1), 1) := by decide +kernel
theorem d_B_state_23 : decode prog_11_method_34_code 23 = .ok (.ireturn, 1) := by decide +kernel
def md_B_state (N : Nat) (v_p0_code : Int32) (v_p0_jobs : Int32) (f_p0_states : Nat → Int32) (a1_x : Int32) : Option (Int32 × Int32) :=
  (zc (md_B_isJob N v_p0_jobs a1_x) (fun o1 => (if o1 = 0 then (some ((-1 : Int32), (0 : Int32))) else (if sg_in a1_x 27 = true then (some (f_p0_states a1_x.toNatClampNeg, (0 : Int32))) else none))))
abbrev sc_B_state (cI cL cM cZ : ClassId) (q_p0 q_p0_text q_p0_names q_p0_calendars q_p0_priorities q_p0_starts q_p0_estimates q_p0_many q_p0_newNames q_p0_numbers q_p0_newMany q_p0_needs q_p0_conditions q_p0_newNeeds q_p0_newConditions q_p0_needPlaces q_p0_rules q_p0_of q_p0_holidays q_p0_states q_p0_ran q_p0_sums q_p0_kept q_p0_startedJob q_p0_startedAt q_p0_ring q_p0_came q_p0_level q_p0_again q_p0_way q_p0_before q_p0_path : Nat) (v_p0_code : Int32) (v_p0_length : Int32) (v_p0_jobs : Int32) (v_p0_newJobs : Int32) (v_p0_made : Int32) (v_p0_days : Int32) (v_p0_now : Int64) (v_p0_started : Int32) (v_p0_ringSize : Int32) (v_p0_place : Int32) (f_p0_states : Nat → Int32) : List va_W := [[(q_p0, .inr (9, [.int v_p0_code, .ref q_p0_text, .int v_p0_length, .int v_p0_jobs, .int v_p0_newJobs, .ref q_p0_names, .ref q_p0_calendars, .ref q_p0_priorities, .ref q_p0_starts, .ref q_p0_estimates, .ref q_p0_many, .ref q_p0_newNames, .ref q_p0_numbers, .ref q_p0_newMany, .ref q_p0_needs, .ref q_p0_conditions, .ref q_p0_newNeeds, .ref q_p0_newConditions, .ref q_p0_needPlaces, .ref q_p0_rules, .ref q_p0_of, .int v_p0_made, .ref q_p0_holidays, .int v_p0_days, .ref q_p0_states, .ref q_p0_ran, .ref q_p0_sums, .ref q_p0_kept, .long v_p0_now, .ref q_p0_startedJob, .ref q_p0_startedAt, .int v_p0_started, .ref q_p0_ring, .ref q_p0_came, .ref q_p0_level, .int v_p0_ringSize, .ref q_p0_again, .ref q_p0_way, .ref q_p0_before, .ref q_p0_path, .int v_p0_place]))], [(q_p0_states, .inl (cI, 27, .inl f_p0_states))]]
abbrev rm_B_state : Room := { frames := 1, cells := 0, slots := 0, locals := 21 }
set_option maxHeartbeats 4000000 in
set_option maxRecDepth 100000 in
theorem ct_B_state (l : Launch) (dC : Nat → ClassId) (dI : Nat → Nat → Nat) (cI cL cM cZ : ClassId) (q_p0 q_p0_text q_p0_names q_p0_calendars q_p0_priorities q_p0_starts q_p0_estimates q_p0_many q_p0_newNames q_p0_numbers q_p0_newMany q_p0_needs q_p0_conditions q_p0_newNeeds q_p0_newConditions q_p0_needPlaces q_p0_rules q_p0_of q_p0_holidays q_p0_states q_p0_ran q_p0_sums q_p0_kept q_p0_startedJob q_p0_startedAt q_p0_ring q_p0_came q_p0_level q_p0_again q_p0_way q_p0_before q_p0_path : Nat) (v_p0_code : Int32) (v_p0_length : Int32) (v_p0_jobs : Int32) (v_p0_newJobs : Int32) (v_p0_made : Int32) (v_p0_days : Int32) (v_p0_now : Int64) (v_p0_started : Int32) (v_p0_ringSize : Int32) (v_p0_place : Int32) (f_p0_states : Nat → Int32) (a1_x : Int32) (N : Nat) (o : Int32 × Int32) (hm : md_B_state N v_p0_code v_p0_jobs f_p0_states a1_x = some o) : ∀ sz : Nat, Met l y_B_state ws_B_state rm_B_state (cP (dC, dI) vwCl [(cI, .int), (cL, .long), (cM, .array .int), (cZ, .boolean)] [.ref q_p0, .int a1_x] sz (sc_B_state cI cL cM cZ q_p0 q_p0_text q_p0_names q_p0_calendars q_p0_priorities q_p0_starts q_p0_estimates q_p0_many q_p0_newNames q_p0_numbers q_p0_newMany q_p0_needs q_p0_conditions q_p0_newNeeds q_p0_newConditions q_p0_needPlaces q_p0_rules q_p0_of q_p0_holidays q_p0_states q_p0_ran q_p0_sums q_p0_kept q_p0_startedJob q_p0_startedAt q_p0_ring q_p0_came q_p0_level q_p0_again q_p0_way q_p0_before q_p0_path v_p0_code v_p0_length v_p0_jobs v_p0_newJobs v_p0_made v_p0_days v_p0_now v_p0_started v_p0_ringSize v_p0_place f_p0_states)) (cQi (dC, dI) vwCl [(cI, .int), (cL, .long), (cM, .array .int), (cZ, .boolean)] sz (sc_B_state cI cL cM cZ q_p0 q_p0_text q_p0_names q_p0_calendars q_p0_priorities q_p0_starts q_p0_estimates q_p0_many q_p0_newNames q_p0_numbers q_p0_newMany q_p0_needs q_p0_conditions q_p0_newNeeds q_p0_newConditions q_p0_needPlaces q_p0_rules q_p0_of q_p0_holidays q_p0_states q_p0_ran q_p0_sums q_p0_kept q_p0_startedJob q_p0_startedAt q_p0_ring q_p0_came q_p0_level q_p0_again q_p0_way q_p0_before q_p0_path v_p0_code v_p0_length v_p0_jobs v_p0_newJobs v_p0_made v_p0_days v_p0_now v_p0_started v_p0_ringSize v_p0_place f_p0_states) o.1 (sc_B_state cI cL cM cZ q_p0 q_p0_text q_p0_names q_p0_calendars q_p0_priorities q_p0_starts q_p0_estimates q_p0_many q_p0_newNames q_p0_numbers q_p0_newMany q_p0_needs q_p0_conditions q_p0_newNeeds q_p0_newConditions q_p0_needPlaces q_p0_rules q_p0_of q_p0_holidays q_p0_states q_p0_ran q_p0_sums q_p0_kept q_p0_startedJob q_p0_startedAt q_p0_ring q_p0_came q_p0_level q_p0_again q_p0_way q_p0_before q_p0_path o.2 v_p0_length v_p0_jobs v_p0_newJobs v_p0_made v_p0_days v_p0_now v_p0_started v_p0_ringSize v_p0_place f_p0_states)) 0 0 (va_A ((sc_B_state cI cL cM cZ q_p0 q_p0_text q_p0_names q_p0_calendars q_p0_priorities q_p0_starts q_p0_estimates q_p0_many q_p0_newNames q_p0_numbers q_p0_newMany q_p0_needs q_p0_conditions q_p0_newNeeds q_p0_newConditions q_p0_needPlaces q_p0_rules q_p0_of q_p0_holidays q_p0_states q_p0_ran q_p0_sums q_p0_kept q_p0_startedJob q_p0_startedAt q_p0_ring q_p0_came q_p0_level q_p0_again q_p0_way q_p0_before q_p0_path v_p0_code v_p0_length v_p0_jobs v_p0_newJobs v_p0_made v_p0_days v_p0_now v_p0_started v_p0_ringSize v_p0_place f_p0_states)).flatten sz) := by
  refine sg_met (fun sz => cQi (dC, dI) vwCl [(cI, .int), (cL, .long), (cM, .array .int), (cZ, .boolean)] sz (sc_B_state cI cL cM cZ q_p0 q_p0_text q_p0_names q_p0_calendars q_p0_priorities q_p0_starts q_p0_estimates q_p0_many q_p0_newNames q_p0_numbers q_p0_newMany q_p0_needs q_p0_conditions q_p0_newNeeds q_p0_newConditions q_p0_needPlaces q_p0_rules q_p0_of q_p0_holidays q_p0_states q_p0_ran q_p0_sums q_p0_kept q_p0_startedJob q_p0_startedAt q_p0_ring q_p0_came q_p0_level q_p0_again q_p0_way q_p0_before q_p0_path v_p0_code v_p0_length v_p0_jobs v_p0_newJobs v_p0_made v_p0_days v_p0_now v_p0_started v_p0_ringSize v_p0_place f_p0_states) o.1 (sc_B_state cI cL cM cZ q_p0 q_p0_text q_p0_names q_p0_calendars q_p0_priorities q_p0_starts q_p0_estimates q_p0_many q_p0_newNames q_p0_numbers q_p0_newMany q_p0_needs q_p0_conditions q_p0_newNeeds q_p0_newConditions q_p0_needPlaces q_p0_rules q_p0_of q_p0_holidays q_p0_states q_p0_ran q_p0_sums q_p0_kept q_p0_startedJob q_p0_startedAt q_p0_ring q_p0_came q_p0_level q_p0_again q_p0_way q_p0_before q_p0_path o.2 v_p0_length v_p0_jobs v_p0_newJobs v_p0_made v_p0_days v_p0_now v_p0_started v_p0_ringSize v_p0_place f_p0_states)) (by decide) (Nat.le_of_ble_eq_true rfl) ?_
  intro p e s m args below meth c A Q ls hx hb hr hts hown hlocks hml hname hK hNW hA hAe hQ hw hl
  have hl : lv_has ls 2 [(0, .ref q_p0), (1, .int a1_x)] := hl
  have hw : wk (dC, dI) vwCl A s.heap [[(q_p0, .inr (9, [.int v_p0_code, .ref q_p0_text, .int v_p0_length, .int v_p0_jobs, .int v_p0_newJobs, .ref q_p0_names, .ref q_p0_calendars, .ref q_p0_priorities, .ref q_p0_starts, .ref q_p0_estimates, .ref q_p0_many, .ref q_p0_newNames, .ref q_p0_numbers, .ref q_p0_newMany, .ref q_p0_needs, .ref q_p0_conditions, .ref q_p0_newNeeds, .ref q_p0_newConditions, .ref q_p0_needPlaces, .ref q_p0_rules, .ref q_p0_of, .int v_p0_made, .ref q_p0_holidays, .int v_p0_days, .ref q_p0_states, .ref q_p0_ran, .ref q_p0_sums, .ref q_p0_kept, .long v_p0_now, .ref q_p0_startedJob, .ref q_p0_startedAt, .int v_p0_started, .ref q_p0_ring, .ref q_p0_came, .ref q_p0_level, .int v_p0_ringSize, .ref q_p0_again, .ref q_p0_way, .ref q_p0_before, .ref q_p0_path, .int v_p0_place]))], [(q_p0_states, .inl (cI, 27, .inl f_p0_states))]] s.heap [] := hw
  unfold md_B_state at hm
  refine lv_aload_n hx hb d_B_state_0 rfl (lv_at hl 0 rfl) ?_
  refine lv_iconst (v := 0) hx hb d_B_state_1 (by decide) ?_
  refine sg_put (D := (dC, dI)) (ci := 9) (v := .int (0 : Int32)) (ty := .int) (C := "JobNetsModel") (T := T_9) (N := 41) (S1 := [[(q_p0, .inr (9, [.int (0 : Int32), .ref q_p0_text, .int v_p0_length, .int v_p0_jobs, .int v_p0_newJobs, .ref q_p0_names, .ref q_p0_calendars, .ref q_p0_priorities, .ref q_p0_starts, .ref q_p0_estimates, .ref q_p0_many, .ref q_p0_newNames, .ref q_p0_numbers, .ref q_p0_newMany, .ref q_p0_needs, .ref q_p0_conditions, .ref q_p0_newNeeds, .ref q_p0_newConditions, .ref q_p0_needPlaces, .ref q_p0_rules, .ref q_p0_of, .int v_p0_made, .ref q_p0_holidays, .int v_p0_days, .ref q_p0_states, .ref q_p0_ran, .ref q_p0_sums, .ref q_p0_kept, .long v_p0_now, .ref q_p0_startedJob, .ref q_p0_startedAt, .int v_p0_started, .ref q_p0_ring, .ref q_p0_came, .ref q_p0_level, .int v_p0_ringSize, .ref q_p0_again, .ref q_p0_way, .ref q_p0_before, .ref q_p0_path, .int v_p0_place]))], [(q_p0_states, .inl (cI, 27, .inl f_p0_states))]]) hx hb hts hin_9 ty_9 tok_9 nd_9 hown hK hw 0 rfl rfl 0 (by decide) (hts _ wd_616) rfl rfl (by decide +kernel) rfl rfl (Nat.le_of_ble_eq_true rfl) rfl d_B_state_2 (fun H locs hw => ?_)
  refine lv_aload_n hx hb d_B_state_5 rfl (lv_at hl 0 rfl) ?_
  refine lv_iload_n hx hb d_B_state_6 rfl (lv_at hl 1 rfl) ?_
  obtain ⟨o1, h1, hm⟩ := zc_x hm
  refine sg_ci0 (Sr := [[(q_p0_states, .inl (cI, 27, .inl f_p0_states))]]) (va_runV (As := [.int a1_x]) (rest := []) ⟨hx, hb, hml, hown, hts⟩ (ct_B_isJob l dC dI cI cL cM cZ q_p0 q_p0_text q_p0_names q_p0_calendars q_p0_priorities q_p0_starts q_p0_estimates q_p0_many q_p0_newNames q_p0_numbers q_p0_newMany q_p0_needs q_p0_conditions q_p0_newNeeds q_p0_newConditions q_p0_needPlaces q_p0_rules q_p0_of q_p0_holidays q_p0_states q_p0_ran q_p0_sums q_p0_kept q_p0_startedJob q_p0_startedAt q_p0_ring q_p0_came q_p0_level q_p0_again q_p0_way q_p0_before q_p0_path (0 : Int32) v_p0_length v_p0_jobs v_p0_newJobs v_p0_made v_p0_days v_p0_now v_p0_started v_p0_ringSize v_p0_place a1_x N o1 h1 _) (cwV 1 hts (gd_V wd_799 wd_801 ws_29 wd_10 wd_802) rfl rfl rfl (by decide +kernel) ⟨Nat.le_of_ble_eq_true rfl, Nat.le_of_ble_eq_true rfl⟩) (sg_preV (ci := 9) (q0 := 0) hK hNW hw [0] rfl rfl rfl rfl) rfl rfl hl.1 rfl (lv_room (Nat.le_of_ble_eq_true rfl)) d_B_state_7 ⟨Nat.le_of_ble_eq_true rfl, Nat.le_of_ble_eq_true rfl⟩) hw hA [0] [1] rfl rfl rfl (by decide) (fun H locs hw => ?_)
  have hw : wk (dC, dI) vwCl A s.heap [[(q_p0_states, .inl (cI, 27, .inl f_p0_states))], [(q_p0, .inr (9, [.int (0 : Int32), .ref q_p0_text, .int v_p0_length, .int v_p0_jobs, .int v_p0_newJobs, .ref q_p0_names, .ref q_p0_calendars, .ref q_p0_priorities, .ref q_p0_starts, .ref q_p0_estimates, .ref q_p0_many, .ref q_p0_newNames, .ref q_p0_numbers, .ref q_p0_newMany, .ref q_p0_needs, .ref q_p0_conditions, .ref q_p0_newNeeds, .ref q_p0_newConditions, .ref q_p0_needPlaces, .ref q_p0_rules, .ref q_p0_of, .int v_p0_made, .ref q_p0_holidays, .int v_p0_days, .ref q_p0_states, .ref q_p0_ran, .ref q_p0_sums, .ref q_p0_kept, .long v_p0_now, .ref q_p0_startedJob, .ref q_p0_startedAt, .int v_p0_started, .ref q_p0_ring, .ref q_p0_came, .ref q_p0_level, .int v_p0_ringSize, .ref q_p0_again, .ref q_p0_way, .ref q_p0_before, .ref q_p0_path, .int v_p0_place]))]] H locs := hw
  refine bq_t (lv_if_eq (tgt := 22) hx hb d_B_state_10 (by decide)) hm (fun hm => ?_) (fun hm => ?_)
  · refine lv_iconst (v := -1) hx hb d_B_state_22 (by decide) ?_
    exact so_iret (rf := fun z_ => z_.1) (Sf := fun z_ => sc_B_state cI cL cM cZ q_p0 q_p0_text q_p0_names q_p0_calendars q_p0_priorities q_p0_starts q_p0_estimates q_p0_many q_p0_newNames q_p0_numbers q_p0_newMany q_p0_needs q_p0_conditions q_p0_newNeeds q_p0_newConditions q_p0_needPlaces q_p0_rules q_p0_of q_p0_holidays q_p0_states q_p0_ran q_p0_sums q_p0_kept q_p0_startedJob q_p0_startedAt q_p0_ring q_p0_came q_p0_level q_p0_again q_p0_way q_p0_before q_p0_path z_.2 v_p0_length v_p0_jobs v_p0_newJobs v_p0_made v_p0_days v_p0_now v_p0_started v_p0_ringSize v_p0_place f_p0_states) hm hx hb hr hlocks hAe hQ hK (hw.sub [1, 0] (by decide) rfl) rfl d_B_state_23
  · refine lv_aload_n hx hb d_B_state_13 rfl (lv_at hl 0 rfl) ?_
    refine sg_get (D := (dC, dI)) (ci := 9) (v := .ref q_p0_states) (C := "JobNetsModel") (T := T_9) (N := 41) hx hb hts hin_9 hown hK hw 1 rfl rfl 24 (by decide) (hts _ wd_640) rfl rfl d_B_state_14 ?_
    refine lv_iload_n hx hb d_B_state_17 rfl (lv_at hl 1 rfl) ?_
    refine sg_iald hx hb hK hw 0 0 rfl rfl d_B_state_18 hm (fun hm => ?_)
    refine lv_goto (tgt := 23) hx hb d_B_state_19 (by decide) ?_
    exact so_iret (rf := fun z_ => z_.1) (Sf := fun z_ => sc_B_state cI cL cM cZ q_p0 q_p0_text q_p0_names q_p0_calendars q_p0_priorities q_p0_starts q_p0_estimates q_p0_many q_p0_newNames q_p0_numbers q_p0_newMany q_p0_needs q_p0_conditions q_p0_newNeeds q_p0_newConditions q_p0_needPlaces q_p0_rules q_p0_of q_p0_holidays q_p0_states q_p0_ran q_p0_sums q_p0_kept q_p0_startedJob q_p0_startedAt q_p0_ring q_p0_came q_p0_level q_p0_again q_p0_way q_p0_before q_p0_path z_.2 v_p0_length v_p0_jobs v_p0_newJobs v_p0_made v_p0_days v_p0_now v_p0_started v_p0_ringSize v_p0_place f_p0_states) hm hx hb hr hlocks hAe hQ hK (hw.sub [1, 0] (by decide) rfl) rfl d_B_state_23
theorem d_B_count_0 : decode prog_11_method_35_code 0 = .ok (.aload_n 0, 1) := by decide +kernel
theorem d_B_count_1 : decode prog_11_method_35_code 1 = .ok (.iconst 0, 1) := by decide +kernel
theorem d_B_count_2 : decode prog_11_method_35_code 2 = .ok (.putfield 105, 3) := by decide +kernel
theorem d_B_count_5 : decode prog_11_method_35_code 5 = .ok (.iconst 0, 1) := by decide +kernel
theorem d_B_count_6 : decode prog_11_method_35_code 6 = .ok (.istore_n 2, 1) := by decide +kernel
theorem d_B_count_7 : decode prog_11_method_35_code 7 = .ok (.iconst 0, 1) := by decide +kernel
theorem d_B_count_8 : decode prog_11_method_35_code 8 = .ok (.istore_n 3, 1) := by decide +kernel
theorem d_B_count_9 : decode prog_11_method_35_code 9 = .ok (.iconst 1, 1) := by decide +kernel
theorem d_B_count_10 : decode prog_11_method_35_code 10 = .ok (.istore 4, 2) := by decide +kernel
theorem d_B_count_12 : decode prog_11_method_35_code 12 = .ok (.iload 4, 2) := by decide +kernel
theorem d_B_count_14 : decode prog_11_method_35_code 14 = .ok (.aload_n 0, 1) := by decide +kernel
theorem d_B_count_15 : decode prog_11_method_35_code 15 = .ok (.getfield 149, 3) := by decide +kernel
theorem d_B_count_18 : decode prog_11_method_35_code 18 = .ok (.if_icmp .gt 46, 3) := by decide +kernel
theorem d_B_count_21 : decode prog_11_method_35_code 21 = .ok (.iload_n 2, 1) := by decide +kernel
theorem d_B_count_22 : decode prog_11_method_35_code 22 = .ok (.aload_n 0, 1) := by decide +kernel
theorem d_B_count_23 : decode prog_11_method_35_code 23 = .ok (.getfield 65, 3) := by decide +kernel
theorem d_B_count_26 : decode prog_11_method_35_code 26 = .ok (.iload 4, 2) := by decide +kernel
theorem d_B_count_28 : decode prog_11_method_35_code 28 = .ok (.iaload, 1) := by decide +kernel
theorem d_B_count_29 : decode prog_11_method_35_code 29 = .ok (.ifCond .eq 7, 3) := by decide +kernel
theorem d_B_count_32 : decode prog_11_method_35_code 32 = .ok (.iconst 1, 1) := by decide +kernel
theorem d_B_count_33 : decode prog_11_method_35_code 33 = .ok (.goto 4, 3) := by decide +kernel
theorem d_B_count_36 : decode prog_11_method_35_code 36 = .ok (.iconst 0, 1) := by decide +kernel
theorem d_B_count_37 : decode prog_11_method_35_code 37 = .ok (.iadd, 1) := by decide +kernel
theorem d_B_count_38 : decode prog_11_method_35_code 38 = .ok (.istore_n 2, 1) := by decide +kernel
theorem d_B_count_39 : decode prog_11_method_35_code 39 = .ok (.iload_n 3, 1) := by decide +kernel
theorem d_B_count_40 : decode prog_11_method_35_code 40 = .ok (.aload_n 0, 1) := by decide +kernel
theorem d_B_count_41 : decode prog_11_method_35_code 41 = .ok (.getfield 65, 3) := by decide +kernel
theorem d_B_count_44 : decode prog_11_method_35_code 44 = .ok (.iload 4, 2) := by decide +kernel
theorem d_B_count_46 : decode prog_11_method_35_code 46 = .ok (.iaload, 1) := by decide +kernel
theorem d_B_count_47 : decode prog_11_method_35_code 47 = .ok (.iconst 2, 1) := by decide +kernel
theorem d_B_count_48 : decode prog_11_method_35_code 48 = .ok (.if_icmp .ne 7, 3) := by decide +kernel
theorem d_B_count_51 : decode prog_11_method_35_code 51 = .ok (.iconst 1, 1) := by decide +kernel
theorem d_B_count_52 : decode prog_11_method_35_code 52 = .ok (.goto 4, 3) := by decide +kernel
theorem d_B_count_55 : decode prog_11_method_35_code 55 = .ok (.iconst 0, 1) := by decide +kernel
theorem d_B_count_56 : decode prog_11_method_35_code 56 = .ok (.iadd, 1) := by decide +kernel
theorem d_B_count_57 : decode prog_11_method_35_code 57 = .ok (.istore_n 3, 1) := by decide +kernel
theorem d_B_count_58 : decode prog_11_method_35_code 58 = .ok (.iinc 4 1, 3) := by decide +kernel
theorem d_B_count_61 : decode prog_11_method_35_code 61 = .ok (.goto (-49), 3) := by decide +kernel
theorem d_B_count_64 : decode prog_11_method_35_code 64 = .ok (.iload_n 1, 1) := by decide +kernel
theorem d_B_count_65 : decode prog_11_method_35_code 65 = .ok (.tableswitch 84 0 7 #[47, 52, 59, 64, 69, 71, 77, 82], 47) := by decide +kernel
theorem d_B_count_112 : decode prog_11_method_35_code 112 = .ok (.aload_n 0, 1) := by decide +kernel
theorem d_B_count_113 : decode prog_11_method_35_code 113 = .ok (.getfield 149, 3) := by decide +kernel
theorem d_B_count_116 : decode prog_11_method_35_code 116 = .ok (.ireturn, 1) := by decide +kernel
theorem d_B_count_117 : decode prog_11_method_35_code 117 = .ok (.aload_n 0, 1) := by decide +kernel
theorem d_B_count_118 : decode prog_11_method_35_code 118 = .ok (.getfield 173, 3) := by decide +kernel
theorem d_B_count_121 : decode prog_11_method_35_code 121 = .ok (.iconst 1, 1) := by decide +kernel
theorem d_B_count_122 : decode prog_11_method_35_code 122 = .ok (.iadd, 1) := by decide +kernel
theorem d_B_count_123 : decode prog_11_method_35_code 123 = .ok (.ireturn, 1) := by decide +kernel
theorem d_B_count_124 : decode prog_11_method_35_code 124 = .ok (.aload_n 0, 1) := by decide +kernel
theorem d_B_count_125 : decode prog_11_method_35_code 125 = .ok (.getfield 178, 3) := by decide +kernel
theorem d_B_count_128 : decode prog_11_method_35_code 128 = .ok (.ireturn, 1) := by decide +kernel
theorem d_B_count_129 : decode prog_11_method_35_code 129 = .ok (.aload_n 0, 1) := by decide +kernel
theorem d_B_count_130 : decode prog_11_method_35_code 130 = .ok (.getfield 152, 3) := by decide +kernel
theorem d_B_count_133 : decode prog_11_method_35_code 133 = .ok (.ireturn, 1) := by decide +kernel
theorem d_B_count_134 : decode prog_11_method_35_code 134 = .ok (.iload_n 2, 1) := by decide +kernel
theorem d_B_count_135 : decode prog_11_method_35_code 135 = .ok (.ireturn, 1) := by decide +kernel
theorem d_B_count_136 : decode prog_11_method_35_code 136 = .ok (.aload_n 0, 1) := by decide +kernel
theorem d_B_count_137 : decode prog_11_method_35_code 137 = .ok (.getfield 155, 3) := by decide +kernel
theorem d_B_count_140 : decode prog_11_method_35_code 140 = .ok (.l2i, 1) := by decide +kernel
theorem d_B_count_141 : decode prog_11_method_35_code 141 = .ok (.ireturn, 1) := by decide +kernel
theorem d_B_count_142 : decode prog_11_method_35_code 142 = .ok (.aload_n 0, 1) := by decide +kernel
theorem d_B_count_143 : decode prog_11_method_35_code 143 = .ok (.getfield 159, 3) := by decide +kernel
theorem d_B_count_146 : decode prog_11_method_35_code 146 = .ok (.ireturn, 1) := by decide +kernel
theorem d_B_count_147 : decode prog_11_method_35_code 147 = .ok (.iload_n 3, 1) := by decide +kernel
theorem d_B_count_148 : decode prog_11_method_35_code 148 = .ok (.ireturn, 1) := by decide +kernel
theorem d_B_count_149 : decode prog_11_method_35_code 149 = .ok (.iconst (-1), 1) := by decide +kernel
theorem d_B_count_150 : decode prog_11_method_35_code 150 = .ok (.ireturn, 1) := by decide +kernel
def md_B_count_F12 (v_p0_jobs : Int32) (v_p0_made : Int32) (v_p0_days : Int32) (v_p0_now : Int64) (v_p0_started : Int32) (v_p0_ringSize : Int32) (f_p0_states : Nat → Int32) (a1_x : Int32) (rec12 : Int32 → Int32 → Int32 → Option (Int32 × Int32)) (x1 : Int32) (x2 : Int32) (x3 : Int32) : Option (Int32 × Int32) :=
  (if v_p0_jobs < x1 then (if a1_x = (0 : Int32) then (some (v_p0_jobs, (0 : Int32))) else (if a1_x = (1 : Int32) then (some (v_p0_made + (1 : Int32), (0 : Int32))) else (if a1_x = (2 : Int32) then (some (v_p0_days, (0 : Int32))) else (if a1_x = (3 : Int32) then (some (v_p0_started, (0 : Int32))) else (if a1_x = (4 : Int32) then (some (x3, (0 : Int32))) else (if a1_x = (5 : Int32) then (some (v_p0_now.toInt32, (0 : Int32))) else (if a1_x = (6 : Int32) then (some (v_p0_ringSize, (0 : Int32))) else (if a1_x = (7 : Int32) then (some (x2, (0 : Int32))) else (some ((-1 : Int32), (0 : Int32))))))))))) else (if sg_in x1 27 = true then (zl (fun (x12 : Int32) (x13 : Int32) => (if sg_in x1 27 = true then (if (f_p0_states x1.toNatClampNeg) = (2 : Int32) then (rec12 (x1 + 1) (x2 + (1 : Int32)) (x13 + x12)) else (rec12 (x1 + 1) (x2 + (0 : Int32)) (x13 + x12))) else none)) (fun k37 => (if (f_p0_states x1.toNatClampNeg) = 0 then (k37 (0 : Int32) x3) else (k37 (1 : Int32) x3)))) else none))
def md_B_count (N : Nat) (v_p0_code : Int32) (v_p0_jobs : Int32) (v_p0_made : Int32) (v_p0_days : Int32) (v_p0_now : Int64) (v_p0_started : Int32) (v_p0_ringSize : Int32) (f_p0_states : Nat → Int32) (a1_x : Int32) : Option (Int32 × Int32) :=
  (fx3 (md_B_count_F12 v_p0_jobs v_p0_made v_p0_days v_p0_now v_p0_started v_p0_ringSize f_p0_states a1_x) N (1 : Int32) (0 : Int32) (0 : Int32))
abbrev sc_B_count (cI cL cM cZ : ClassId) (q_p0 q_p0_text q_p0_names q_p0_calendars q_p0_priorities q_p0_starts q_p0_estimates q_p0_many q_p0_newNames q_p0_numbers q_p0_newMany q_p0_needs q_p0_conditions q_p0_newNeeds q_p0_newConditions q_p0_needPlaces q_p0_rules q_p0_of q_p0_holidays q_p0_states q_p0_ran q_p0_sums q_p0_kept q_p0_startedJob q_p0_startedAt q_p0_ring q_p0_came q_p0_level q_p0_again q_p0_way q_p0_before q_p0_path : Nat) (v_p0_code : Int32) (v_p0_length : Int32) (v_p0_jobs : Int32) (v_p0_newJobs : Int32) (v_p0_made : Int32) (v_p0_days : Int32) (v_p0_now : Int64) (v_p0_started : Int32) (v_p0_ringSize : Int32) (v_p0_place : Int32) (f_p0_states : Nat → Int32) : List va_W := [[(q_p0, .inr (9, [.int v_p0_code, .ref q_p0_text, .int v_p0_length, .int v_p0_jobs, .int v_p0_newJobs, .ref q_p0_names, .ref q_p0_calendars, .ref q_p0_priorities, .ref q_p0_starts, .ref q_p0_estimates, .ref q_p0_many, .ref q_p0_newNames, .ref q_p0_numbers, .ref q_p0_newMany, .ref q_p0_needs, .ref q_p0_conditions, .ref q_p0_newNeeds, .ref q_p0_newConditions, .ref q_p0_needPlaces, .ref q_p0_rules, .ref q_p0_of, .int v_p0_made, .ref q_p0_holidays, .int v_p0_days, .ref q_p0_states, .ref q_p0_ran, .ref q_p0_sums, .ref q_p0_kept, .long v_p0_now, .ref q_p0_startedJob, .ref q_p0_startedAt, .int v_p0_started, .ref q_p0_ring, .ref q_p0_came, .ref q_p0_level, .int v_p0_ringSize, .ref q_p0_again, .ref q_p0_way, .ref q_p0_before, .ref q_p0_path, .int v_p0_place]))], [(q_p0_states, .inl (cI, 27, .inl f_p0_states))]]
abbrev rm_B_count : Room := { frames := 0, cells := 0, slots := 0, locals := 0 }
set_option maxHeartbeats 4000000 in
set_option maxRecDepth 100000 in
theorem ct_B_count (l : Launch) (dC : Nat → ClassId) (dI : Nat → Nat → Nat) (cI cL cM cZ : ClassId) (q_p0 q_p0_text q_p0_names q_p0_calendars q_p0_priorities q_p0_starts q_p0_estimates q_p0_many q_p0_newNames q_p0_numbers q_p0_newMany q_p0_needs q_p0_conditions q_p0_newNeeds q_p0_newConditions q_p0_needPlaces q_p0_rules q_p0_of q_p0_holidays q_p0_states q_p0_ran q_p0_sums q_p0_kept q_p0_startedJob q_p0_startedAt q_p0_ring q_p0_came q_p0_level q_p0_again q_p0_way q_p0_before q_p0_path : Nat) (v_p0_code : Int32) (v_p0_length : Int32) (v_p0_jobs : Int32) (v_p0_newJobs : Int32) (v_p0_made : Int32) (v_p0_days : Int32) (v_p0_now : Int64) (v_p0_started : Int32) (v_p0_ringSize : Int32) (v_p0_place : Int32) (f_p0_states : Nat → Int32) (a1_x : Int32) (N : Nat) (o : Int32 × Int32) (hm : md_B_count N v_p0_code v_p0_jobs v_p0_made v_p0_days v_p0_now v_p0_started v_p0_ringSize f_p0_states a1_x = some o) : ∀ sz : Nat, Met l y_B_count ws_B_count rm_B_count (cP (dC, dI) vwCl [(cI, .int), (cL, .long), (cM, .array .int), (cZ, .boolean)] [.ref q_p0, .int a1_x] sz (sc_B_count cI cL cM cZ q_p0 q_p0_text q_p0_names q_p0_calendars q_p0_priorities q_p0_starts q_p0_estimates q_p0_many q_p0_newNames q_p0_numbers q_p0_newMany q_p0_needs q_p0_conditions q_p0_newNeeds q_p0_newConditions q_p0_needPlaces q_p0_rules q_p0_of q_p0_holidays q_p0_states q_p0_ran q_p0_sums q_p0_kept q_p0_startedJob q_p0_startedAt q_p0_ring q_p0_came q_p0_level q_p0_again q_p0_way q_p0_before q_p0_path v_p0_code v_p0_length v_p0_jobs v_p0_newJobs v_p0_made v_p0_days v_p0_now v_p0_started v_p0_ringSize v_p0_place f_p0_states)) (cQi (dC, dI) vwCl [(cI, .int), (cL, .long), (cM, .array .int), (cZ, .boolean)] sz (sc_B_count cI cL cM cZ q_p0 q_p0_text q_p0_names q_p0_calendars q_p0_priorities q_p0_starts q_p0_estimates q_p0_many q_p0_newNames q_p0_numbers q_p0_newMany q_p0_needs q_p0_conditions q_p0_newNeeds q_p0_newConditions q_p0_needPlaces q_p0_rules q_p0_of q_p0_holidays q_p0_states q_p0_ran q_p0_sums q_p0_kept q_p0_startedJob q_p0_startedAt q_p0_ring q_p0_came q_p0_level q_p0_again q_p0_way q_p0_before q_p0_path v_p0_code v_p0_length v_p0_jobs v_p0_newJobs v_p0_made v_p0_days v_p0_now v_p0_started v_p0_ringSize v_p0_place f_p0_states) o.1 (sc_B_count cI cL cM cZ q_p0 q_p0_text q_p0_names q_p0_calendars q_p0_priorities q_p0_starts q_p0_estimates q_p0_many q_p0_newNames q_p0_numbers q_p0_newMany q_p0_needs q_p0_conditions q_p0_newNeeds q_p0_newConditions q_p0_needPlaces q_p0_rules q_p0_of q_p0_holidays q_p0_states q_p0_ran q_p0_sums q_p0_kept q_p0_startedJob q_p0_startedAt q_p0_ring q_p0_came q_p0_level q_p0_again q_p0_way q_p0_before q_p0_path o.2 v_p0_length v_p0_jobs v_p0_newJobs v_p0_made v_p0_days v_p0_now v_p0_started v_p0_ringSize v_p0_place f_p0_states)) 0 0 (va_A ((sc_B_count cI cL cM cZ q_p0 q_p0_text q_p0_names q_p0_calendars q_p0_priorities q_p0_starts q_p0_estimates q_p0_many q_p0_newNames q_p0_numbers q_p0_newMany q_p0_needs q_p0_conditions q_p0_newNeeds q_p0_newConditions q_p0_needPlaces q_p0_rules q_p0_of q_p0_holidays q_p0_states q_p0_ran q_p0_sums q_p0_kept q_p0_startedJob q_p0_startedAt q_p0_ring q_p0_came q_p0_level q_p0_again q_p0_way q_p0_before q_p0_path v_p0_code v_p0_length v_p0_jobs v_p0_newJobs v_p0_made v_p0_days v_p0_now v_p0_started v_p0_ringSize v_p0_place f_p0_states)).flatten sz) := by
  refine sg_met (fun sz => cQi (dC, dI) vwCl [(cI, .int), (cL, .long), (cM, .array .int), (cZ, .boolean)] sz (sc_B_count cI cL cM cZ q_p0 q_p0_text q_p0_names q_p0_calendars q_p0_priorities q_p0_starts q_p0_estimates q_p0_many q_p0_newNames q_p0_numbers q_p0_newMany q_p0_needs q_p0_conditions q_p0_newNeeds q_p0_newConditions q_p0_needPlaces q_p0_rules q_p0_of q_p0_holidays q_p0_states q_p0_ran q_p0_sums q_p0_kept q_p0_startedJob q_p0_startedAt q_p0_ring q_p0_came q_p0_level q_p0_again q_p0_way q_p0_before q_p0_path v_p0_code v_p0_length v_p0_jobs v_p0_newJobs v_p0_made v_p0_days v_p0_now v_p0_started v_p0_ringSize v_p0_place f_p0_states) o.1 (sc_B_count cI cL cM cZ q_p0 q_p0_text q_p0_names q_p0_calendars q_p0_priorities q_p0_starts q_p0_estimates q_p0_many q_p0_newNames q_p0_numbers q_p0_newMany q_p0_needs q_p0_conditions q_p0_newNeeds q_p0_newConditions q_p0_needPlaces q_p0_rules q_p0_of q_p0_holidays q_p0_states q_p0_ran q_p0_sums q_p0_kept q_p0_startedJob q_p0_startedAt q_p0_ring q_p0_came q_p0_level q_p0_again q_p0_way q_p0_before q_p0_path o.2 v_p0_length v_p0_jobs v_p0_newJobs v_p0_made v_p0_days v_p0_now v_p0_started v_p0_ringSize v_p0_place f_p0_states)) (by decide) (Nat.le_of_ble_eq_true rfl) ?_
  intro p e s m args below meth c A Q ls hx hb hr hts hown hlocks hml hname hK hNW hA hAe hQ hw hl
  have hl : lv_has ls 5 [(0, .ref q_p0), (1, .int a1_x)] := hl
  have hw : wk (dC, dI) vwCl A s.heap [[(q_p0, .inr (9, [.int v_p0_code, .ref q_p0_text, .int v_p0_length, .int v_p0_jobs, .int v_p0_newJobs, .ref q_p0_names, .ref q_p0_calendars, .ref q_p0_priorities, .ref q_p0_starts, .ref q_p0_estimates, .ref q_p0_many, .ref q_p0_newNames, .ref q_p0_numbers, .ref q_p0_newMany, .ref q_p0_needs, .ref q_p0_conditions, .ref q_p0_newNeeds, .ref q_p0_newConditions, .ref q_p0_needPlaces, .ref q_p0_rules, .ref q_p0_of, .int v_p0_made, .ref q_p0_holidays, .int v_p0_days, .ref q_p0_states, .ref q_p0_ran, .ref q_p0_sums, .ref q_p0_kept, .long v_p0_now, .ref q_p0_startedJob, .ref q_p0_startedAt, .int v_p0_started, .ref q_p0_ring, .ref q_p0_came, .ref q_p0_level, .int v_p0_ringSize, .ref q_p0_again, .ref q_p0_way, .ref q_p0_before, .ref q_p0_path, .int v_p0_place]))], [(q_p0_states, .inl (cI, 27, .inl f_p0_states))]] s.heap [] := hw
  unfold md_B_count at hm
  refine lv_aload_n hx hb d_B_count_0 rfl (lv_at hl 0 rfl) ?_
  refine lv_iconst (v := 0) hx hb d_B_count_1 (by decide) ?_
  refine sg_put (D := (dC, dI)) (ci := 9) (v := .int (0 : Int32)) (ty := .int) (C := "JobNetsModel") (T := T_9) (N := 41) (S1 := [[(q_p0, .inr (9, [.int (0 : Int32), .ref q_p0_text, .int v_p0_length, .int v_p0_jobs, .int v_p0_newJobs, .ref q_p0_names, .ref q_p0_calendars, .ref q_p0_priorities, .ref q_p0_starts, .ref q_p0_estimates, .ref q_p0_many, .ref q_p0_newNames, .ref q_p0_numbers, .ref q_p0_newMany, .ref q_p0_needs, .ref q_p0_conditions, .ref q_p0_newNeeds, .ref q_p0_newConditions, .ref q_p0_needPlaces, .ref q_p0_rules, .ref q_p0_of, .int v_p0_made, .ref q_p0_holidays, .int v_p0_days, .ref q_p0_states, .ref q_p0_ran, .ref q_p0_sums, .ref q_p0_kept, .long v_p0_now, .ref q_p0_startedJob, .ref q_p0_startedAt, .int v_p0_started, .ref q_p0_ring, .ref q_p0_came, .ref q_p0_level, .int v_p0_ringSize, .ref q_p0_again, .ref q_p0_way, .ref q_p0_before, .ref q_p0_path, .int v_p0_place]))], [(q_p0_states, .inl (cI, 27, .inl f_p0_states))]]) hx hb hts hin_9 ty_9 tok_9 nd_9 hown hK hw 0 rfl rfl 0 (by decide) (hts _ wd_616) rfl rfl (by decide +kernel) rfl rfl (Nat.le_of_ble_eq_true rfl) rfl d_B_count_2 (fun H locs hw => ?_)
  refine lv_iconst (v := 0) hx hb d_B_count_5 (by decide) ?_
  refine lv_istore_n (lv' := [(2, .int (0 : Int32)), (0, .ref q_p0), (1, .int a1_x)]) hx hb d_B_count_6 rfl hl (by decide) rfl (fun ls hl => ?_)
  refine lv_iconst (v := 0) hx hb d_B_count_7 (by decide) ?_
  refine lv_istore_n (lv' := [(3, .int (0 : Int32)), (2, .int (0 : Int32)), (0, .ref q_p0), (1, .int a1_x)]) hx hb d_B_count_8 rfl hl (by decide) rfl (fun ls hl => ?_)
  refine lv_iconst (v := 1) hx hb d_B_count_9 (by decide) ?_
  refine lv_istore (lv' := [(4, .int (1 : Int32)), (3, .int (0 : Int32)), (2, .int (0 : Int32)), (0, .ref q_p0), (1, .int a1_x)]) hx hb d_B_count_10 hl (by decide) rfl (fun ls hl => ?_)
  obtain ⟨Fn12, hFn12, hm⟩ := fx3_x hm
  have L12 : ∀ (n : Nat) (x1 : Int32) (x2 : Int32) (x3 : Int32), fx3 Fn12 n x1 x2 x3 = some o → ∀ (H : Heap) (locs : List Loc) (ls : Array Slot), wk (dC, dI) vwCl A s.heap [[(q_p0, .inr (9, [.int (0 : Int32), .ref q_p0_text, .int v_p0_length, .int v_p0_jobs, .int v_p0_newJobs, .ref q_p0_names, .ref q_p0_calendars, .ref q_p0_priorities, .ref q_p0_starts, .ref q_p0_estimates, .ref q_p0_many, .ref q_p0_newNames, .ref q_p0_numbers, .ref q_p0_newMany, .ref q_p0_needs, .ref q_p0_conditions, .ref q_p0_newNeeds, .ref q_p0_newConditions, .ref q_p0_needPlaces, .ref q_p0_rules, .ref q_p0_of, .int v_p0_made, .ref q_p0_holidays, .int v_p0_days, .ref q_p0_states, .ref q_p0_ran, .ref q_p0_sums, .ref q_p0_kept, .long v_p0_now, .ref q_p0_startedJob, .ref q_p0_startedAt, .int v_p0_started, .ref q_p0_ring, .ref q_p0_came, .ref q_p0_level, .int v_p0_ringSize, .ref q_p0_again, .ref q_p0_way, .ref q_p0_before, .ref q_p0_path, .int v_p0_place]))], [(q_p0_states, .inl (cI, 27, .inl f_p0_states))]] H locs → lv_has ls 5 [(4, .int x1), (3, .int x2), (2, .int x3), (0, .ref q_p0), (1, .int a1_x)] → W p l e rm_B_count s m args below meth c H locs 0 0 Q (F0 m 12 ls []) := by
    intro n
    induction n with
    | zero => intro x1 x2 x3 hm; exact (fx3_0 hm).elim
    | succ n ih12 =>
      intro x1 x2 x3 hm H locs ls hw hl
      have hm := fx3_s hFn12 hm
      unfold md_B_count_F12 at hm
      refine lv_iload hx hb d_B_count_12 (lv_at hl 0 rfl) ?_
      refine lv_aload_n hx hb d_B_count_14 rfl (lv_at hl 3 rfl) ?_
      refine sg_get (D := (dC, dI)) (ci := 9) (v := .int v_p0_jobs) (C := "JobNetsModel") (T := T_9) (N := 41) hx hb hts hin_9 hown hK hw 0 rfl rfl 3 (by decide) (hts _ wd_619) rfl rfl d_B_count_15 ?_
      refine bq_t (lv_icmp_gt (tgt := 64) hx hb d_B_count_18 (by decide)) hm (fun hm => ?_) (fun hm => ?_)
      · refine lv_iload_n hx hb d_B_count_64 rfl (lv_at hl 4 rfl) ?_
        refine it_c hm (fun hc4 hm => ?_) (fun hc4 hm => ?_)
        · refine lv_tableIn (tgt := 112) hx hb d_B_count_65 (by rw [hc4]; decide) (by rw [hc4]; decide) (by rw [hc4]; rfl) (by decide) ?_
          refine lv_aload_n hx hb d_B_count_112 rfl (lv_at hl 3 rfl) ?_
          refine sg_get (D := (dC, dI)) (ci := 9) (v := .int v_p0_jobs) (C := "JobNetsModel") (T := T_9) (N := 41) hx hb hts hin_9 hown hK hw 0 rfl rfl 3 (by decide) (hts _ wd_619) rfl rfl d_B_count_113 ?_
          exact so_iret (rf := fun z_ => z_.1) (Sf := fun z_ => sc_B_count cI cL cM cZ q_p0 q_p0_text q_p0_names q_p0_calendars q_p0_priorities q_p0_starts q_p0_estimates q_p0_many q_p0_newNames q_p0_numbers q_p0_newMany q_p0_needs q_p0_conditions q_p0_newNeeds q_p0_newConditions q_p0_needPlaces q_p0_rules q_p0_of q_p0_holidays q_p0_states q_p0_ran q_p0_sums q_p0_kept q_p0_startedJob q_p0_startedAt q_p0_ring q_p0_came q_p0_level q_p0_again q_p0_way q_p0_before q_p0_path z_.2 v_p0_length v_p0_jobs v_p0_newJobs v_p0_made v_p0_days v_p0_now v_p0_started v_p0_ringSize v_p0_place f_p0_states) hm hx hb hr hlocks hAe hQ hK hw rfl d_B_count_116
        · skip
          refine it_c hm (fun hc5 hm => ?_) (fun hc5 hm => ?_)
          · refine lv_tableIn (tgt := 117) hx hb d_B_count_65 (by rw [hc5]; decide) (by rw [hc5]; decide) (by rw [hc5]; rfl) (by decide) ?_
            refine lv_aload_n hx hb d_B_count_117 rfl (lv_at hl 3 rfl) ?_
            refine sg_get (D := (dC, dI)) (ci := 9) (v := .int v_p0_made) (C := "JobNetsModel") (T := T_9) (N := 41) hx hb hts hin_9 hown hK hw 0 rfl rfl 21 (by decide) (hts _ wd_637) rfl rfl d_B_count_118 ?_
            refine lv_iconst (v := 1) hx hb d_B_count_121 (by decide) ?_
            refine lv_iadd hx hb d_B_count_122 ?_
            exact so_iret (rf := fun z_ => z_.1) (Sf := fun z_ => sc_B_count cI cL cM cZ q_p0 q_p0_text q_p0_names q_p0_calendars q_p0_priorities q_p0_starts q_p0_estimates q_p0_many q_p0_newNames q_p0_numbers q_p0_newMany q_p0_needs q_p0_conditions q_p0_newNeeds q_p0_newConditions q_p0_needPlaces q_p0_rules q_p0_of q_p0_holidays q_p0_states q_p0_ran q_p0_sums q_p0_kept q_p0_startedJob q_p0_startedAt q_p0_ring q_p0_came q_p0_level q_p0_again q_p0_way q_p0_before q_p0_path z_.2 v_p0_length v_p0_jobs v_p0_newJobs v_p0_made v_p0_days v_p0_now v_p0_started v_p0_ringSize v_p0_place f_p0_states) hm hx hb hr hlocks hAe hQ hK hw rfl d_B_count_123
          · skip
            refine it_c hm (fun hc6 hm => ?_) (fun hc6 hm => ?_)
            · refine lv_tableIn (tgt := 124) hx hb d_B_count_65 (by rw [hc6]; decide) (by rw [hc6]; decide) (by rw [hc6]; rfl) (by decide) ?_
              refine lv_aload_n hx hb d_B_count_124 rfl (lv_at hl 3 rfl) ?_
              refine sg_get (D := (dC, dI)) (ci := 9) (v := .int v_p0_days) (C := "JobNetsModel") (T := T_9) (N := 41) hx hb hts hin_9 hown hK hw 0 rfl rfl 23 (by decide) (hts _ wd_639) rfl rfl d_B_count_125 ?_
              exact so_iret (rf := fun z_ => z_.1) (Sf := fun z_ => sc_B_count cI cL cM cZ q_p0 q_p0_text q_p0_names q_p0_calendars q_p0_priorities q_p0_starts q_p0_estimates q_p0_many q_p0_newNames q_p0_numbers q_p0_newMany q_p0_needs q_p0_conditions q_p0_newNeeds q_p0_newConditions q_p0_needPlaces q_p0_rules q_p0_of q_p0_holidays q_p0_states q_p0_ran q_p0_sums q_p0_kept q_p0_startedJob q_p0_startedAt q_p0_ring q_p0_came q_p0_level q_p0_again q_p0_way q_p0_before q_p0_path z_.2 v_p0_length v_p0_jobs v_p0_newJobs v_p0_made v_p0_days v_p0_now v_p0_started v_p0_ringSize v_p0_place f_p0_states) hm hx hb hr hlocks hAe hQ hK hw rfl d_B_count_128
            · skip
              refine it_c hm (fun hc7 hm => ?_) (fun hc7 hm => ?_)
              · refine lv_tableIn (tgt := 129) hx hb d_B_count_65 (by rw [hc7]; decide) (by rw [hc7]; decide) (by rw [hc7]; rfl) (by decide) ?_
                refine lv_aload_n hx hb d_B_count_129 rfl (lv_at hl 3 rfl) ?_
                refine sg_get (D := (dC, dI)) (ci := 9) (v := .int v_p0_started) (C := "JobNetsModel") (T := T_9) (N := 41) hx hb hts hin_9 hown hK hw 0 rfl rfl 31 (by decide) (hts _ wd_647) rfl rfl d_B_count_130 ?_
                exact so_iret (rf := fun z_ => z_.1) (Sf := fun z_ => sc_B_count cI cL cM cZ q_p0 q_p0_text q_p0_names q_p0_calendars q_p0_priorities q_p0_starts q_p0_estimates q_p0_many q_p0_newNames q_p0_numbers q_p0_newMany q_p0_needs q_p0_conditions q_p0_newNeeds q_p0_newConditions q_p0_needPlaces q_p0_rules q_p0_of q_p0_holidays q_p0_states q_p0_ran q_p0_sums q_p0_kept q_p0_startedJob q_p0_startedAt q_p0_ring q_p0_came q_p0_level q_p0_again q_p0_way q_p0_before q_p0_path z_.2 v_p0_length v_p0_jobs v_p0_newJobs v_p0_made v_p0_days v_p0_now v_p0_started v_p0_ringSize v_p0_place f_p0_states) hm hx hb hr hlocks hAe hQ hK hw rfl d_B_count_133
              · skip
                refine it_c hm (fun hc8 hm => ?_) (fun hc8 hm => ?_)
                · refine lv_tableIn (tgt := 134) hx hb d_B_count_65 (by rw [hc8]; decide) (by rw [hc8]; decide) (by rw [hc8]; rfl) (by decide) ?_
                  refine lv_iload_n hx hb d_B_count_134 rfl (lv_at hl 2 rfl) ?_
                  exact so_iret (rf := fun z_ => z_.1) (Sf := fun z_ => sc_B_count cI cL cM cZ q_p0 q_p0_text q_p0_names q_p0_calendars q_p0_priorities q_p0_starts q_p0_estimates q_p0_many q_p0_newNames q_p0_numbers q_p0_newMany q_p0_needs q_p0_conditions q_p0_newNeeds q_p0_newConditions q_p0_needPlaces q_p0_rules q_p0_of q_p0_holidays q_p0_states q_p0_ran q_p0_sums q_p0_kept q_p0_startedJob q_p0_startedAt q_p0_ring q_p0_came q_p0_level q_p0_again q_p0_way q_p0_before q_p0_path z_.2 v_p0_length v_p0_jobs v_p0_newJobs v_p0_made v_p0_days v_p0_now v_p0_started v_p0_ringSize v_p0_place f_p0_states) hm hx hb hr hlocks hAe hQ hK hw rfl d_B_count_135
                · skip
                  refine it_c hm (fun hc9 hm => ?_) (fun hc9 hm => ?_)
                  · refine lv_tableIn (tgt := 136) hx hb d_B_count_65 (by rw [hc9]; decide) (by rw [hc9]; decide) (by rw [hc9]; rfl) (by decide) ?_
                    refine lv_aload_n hx hb d_B_count_136 rfl (lv_at hl 3 rfl) ?_
                    refine sg_get (D := (dC, dI)) (ci := 9) (v := .long v_p0_now) (C := "JobNetsModel") (T := T_9) (N := 41) hx hb hts hin_9 hown hK hw 0 rfl rfl 28 (by decide) (hts _ wd_644) rfl rfl d_B_count_137 ?_
                    refine lv_l2i hx hb d_B_count_140 rfl ?_
                    exact so_iret (rf := fun z_ => z_.1) (Sf := fun z_ => sc_B_count cI cL cM cZ q_p0 q_p0_text q_p0_names q_p0_calendars q_p0_priorities q_p0_starts q_p0_estimates q_p0_many q_p0_newNames q_p0_numbers q_p0_newMany q_p0_needs q_p0_conditions q_p0_newNeeds q_p0_newConditions q_p0_needPlaces q_p0_rules q_p0_of q_p0_holidays q_p0_states q_p0_ran q_p0_sums q_p0_kept q_p0_startedJob q_p0_startedAt q_p0_ring q_p0_came q_p0_level q_p0_again q_p0_way q_p0_before q_p0_path z_.2 v_p0_length v_p0_jobs v_p0_newJobs v_p0_made v_p0_days v_p0_now v_p0_started v_p0_ringSize v_p0_place f_p0_states) hm hx hb hr hlocks hAe hQ hK hw rfl d_B_count_141
                  · skip
                    refine it_c hm (fun hc10 hm => ?_) (fun hc10 hm => ?_)
                    · refine lv_tableIn (tgt := 142) hx hb d_B_count_65 (by rw [hc10]; decide) (by rw [hc10]; decide) (by rw [hc10]; rfl) (by decide) ?_
                      refine lv_aload_n hx hb d_B_count_142 rfl (lv_at hl 3 rfl) ?_
                      refine sg_get (D := (dC, dI)) (ci := 9) (v := .int v_p0_ringSize) (C := "JobNetsModel") (T := T_9) (N := 41) hx hb hts hin_9 hown hK hw 0 rfl rfl 35 (by decide) (hts _ wd_651) rfl rfl d_B_count_143 ?_
                      exact so_iret (rf := fun z_ => z_.1) (Sf := fun z_ => sc_B_count cI cL cM cZ q_p0 q_p0_text q_p0_names q_p0_calendars q_p0_priorities q_p0_starts q_p0_estimates q_p0_many q_p0_newNames q_p0_numbers q_p0_newMany q_p0_needs q_p0_conditions q_p0_newNeeds q_p0_newConditions q_p0_needPlaces q_p0_rules q_p0_of q_p0_holidays q_p0_states q_p0_ran q_p0_sums q_p0_kept q_p0_startedJob q_p0_startedAt q_p0_ring q_p0_came q_p0_level q_p0_again q_p0_way q_p0_before q_p0_path z_.2 v_p0_length v_p0_jobs v_p0_newJobs v_p0_made v_p0_days v_p0_now v_p0_started v_p0_ringSize v_p0_place f_p0_states) hm hx hb hr hlocks hAe hQ hK hw rfl d_B_count_146
                    · skip
                      refine it_c hm (fun hc11 hm => ?_) (fun hc11 hm => ?_)
                      · refine lv_tableIn (tgt := 147) hx hb d_B_count_65 (by rw [hc11]; decide) (by rw [hc11]; decide) (by rw [hc11]; rfl) (by decide) ?_
                        refine lv_iload_n hx hb d_B_count_147 rfl (lv_at hl 1 rfl) ?_
                        exact so_iret (rf := fun z_ => z_.1) (Sf := fun z_ => sc_B_count cI cL cM cZ q_p0 q_p0_text q_p0_names q_p0_calendars q_p0_priorities q_p0_starts q_p0_estimates q_p0_many q_p0_newNames q_p0_numbers q_p0_newMany q_p0_needs q_p0_conditions q_p0_newNeeds q_p0_newConditions q_p0_needPlaces q_p0_rules q_p0_of q_p0_holidays q_p0_states q_p0_ran q_p0_sums q_p0_kept q_p0_startedJob q_p0_startedAt q_p0_ring q_p0_came q_p0_level q_p0_again q_p0_way q_p0_before q_p0_path z_.2 v_p0_length v_p0_jobs v_p0_newJobs v_p0_made v_p0_days v_p0_now v_p0_started v_p0_ringSize v_p0_place f_p0_states) hm hx hb hr hlocks hAe hQ hK hw rfl d_B_count_148
                      · skip
                        refine lv_tableOut (tgt := 149) hx hb d_B_count_65 (by have mhc4 := i32_nk (0) (0) (by decide) hc4; have mhc5 := i32_nk (1) (1) (by decide) hc5; have mhc6 := i32_nk (2) (2) (by decide) hc6; have mhc7 := i32_nk (3) (3) (by decide) hc7; have mhc8 := i32_nk (4) (4) (by decide) hc8; have mhc9 := i32_nk (5) (5) (by decide) hc9; have mhc10 := i32_nk (6) (6) (by decide) hc10; have mhc11 := i32_nk (7) (7) (by decide) hc11; omega) (by decide) ?_
                        refine lv_iconst (v := -1) hx hb d_B_count_149 (by decide) ?_
                        exact so_iret (rf := fun z_ => z_.1) (Sf := fun z_ => sc_B_count cI cL cM cZ q_p0 q_p0_text q_p0_names q_p0_calendars q_p0_priorities q_p0_starts q_p0_estimates q_p0_many q_p0_newNames q_p0_numbers q_p0_newMany q_p0_needs q_p0_conditions q_p0_newNeeds q_p0_newConditions q_p0_needPlaces q_p0_rules q_p0_of q_p0_holidays q_p0_states q_p0_ran q_p0_sums q_p0_kept q_p0_startedJob q_p0_startedAt q_p0_ring q_p0_came q_p0_level q_p0_again q_p0_way q_p0_before q_p0_path z_.2 v_p0_length v_p0_jobs v_p0_newJobs v_p0_made v_p0_days v_p0_now v_p0_started v_p0_ringSize v_p0_place f_p0_states) hm hx hb hr hlocks hAe hQ hK hw rfl d_B_count_150
      · refine lv_iload_n hx hb d_B_count_21 rfl (lv_at hl 2 rfl) ?_
        refine lv_aload_n hx hb d_B_count_22 rfl (lv_at hl 3 rfl) ?_
        refine sg_get (D := (dC, dI)) (ci := 9) (v := .ref q_p0_states) (C := "JobNetsModel") (T := T_9) (N := 41) hx hb hts hin_9 hown hK hw 0 rfl rfl 24 (by decide) (hts _ wd_640) rfl rfl d_B_count_23 ?_
        refine lv_iload hx hb d_B_count_26 (lv_at hl 0 rfl) ?_
        refine sg_iald hx hb hK hw 1 0 rfl rfl d_B_count_28 hm (fun hm => ?_)
        obtain ⟨k37, hk37, hm⟩ := zl_x hm
        have J37 : ∀ (x12 : Int32) (x13 : Int32) , k37 x12 x13 = some o → ∀ (H : Heap) (locs : List Loc) (ls : Array Slot), wk (dC, dI) vwCl A s.heap [[(q_p0, .inr (9, [.int (0 : Int32), .ref q_p0_text, .int v_p0_length, .int v_p0_jobs, .int v_p0_newJobs, .ref q_p0_names, .ref q_p0_calendars, .ref q_p0_priorities, .ref q_p0_starts, .ref q_p0_estimates, .ref q_p0_many, .ref q_p0_newNames, .ref q_p0_numbers, .ref q_p0_newMany, .ref q_p0_needs, .ref q_p0_conditions, .ref q_p0_newNeeds, .ref q_p0_newConditions, .ref q_p0_needPlaces, .ref q_p0_rules, .ref q_p0_of, .int v_p0_made, .ref q_p0_holidays, .int v_p0_days, .ref q_p0_states, .ref q_p0_ran, .ref q_p0_sums, .ref q_p0_kept, .long v_p0_now, .ref q_p0_startedJob, .ref q_p0_startedAt, .int v_p0_started, .ref q_p0_ring, .ref q_p0_came, .ref q_p0_level, .int v_p0_ringSize, .ref q_p0_again, .ref q_p0_way, .ref q_p0_before, .ref q_p0_path, .int v_p0_place]))], [(q_p0_states, .inl (cI, 27, .inl f_p0_states))]] H locs → lv_has ls 5 [(4, .int x1), (3, .int x2), (0, .ref q_p0), (1, .int a1_x)] → W p l e rm_B_count s m args below meth c H locs 0 0 Q (F0 m 37 ls [.int x12, .int x13]) := by
          intro x12 x13 hm H locs ls hw hl
          subst hk37
          refine lv_iadd hx hb d_B_count_37 ?_
          refine lv_istore_n (lv' := [(2, .int (x13 + x12)), (4, .int x1), (3, .int x2), (0, .ref q_p0), (1, .int a1_x)]) hx hb d_B_count_38 rfl hl (by decide) rfl (fun ls hl => ?_)
          refine lv_iload_n hx hb d_B_count_39 rfl (lv_at hl 2 rfl) ?_
          refine lv_aload_n hx hb d_B_count_40 rfl (lv_at hl 3 rfl) ?_
          refine sg_get (D := (dC, dI)) (ci := 9) (v := .ref q_p0_states) (C := "JobNetsModel") (T := T_9) (N := 41) hx hb hts hin_9 hown hK hw 0 rfl rfl 24 (by decide) (hts _ wd_640) rfl rfl d_B_count_41 ?_
          refine lv_iload hx hb d_B_count_44 (lv_at hl 1 rfl) ?_
          refine sg_iald hx hb hK hw 1 0 rfl rfl d_B_count_46 hm (fun hm => ?_)
          refine lv_iconst (v := 2) hx hb d_B_count_47 (by decide) ?_
          refine bq_n (lv_icmp_ne (tgt := 55) hx hb d_B_count_48 (by decide)) hm (fun hm => ?_) (fun hm => ?_)
          · refine lv_iconst (v := 0) hx hb d_B_count_55 (by decide) ?_
            refine lv_iadd hx hb d_B_count_56 ?_
            refine lv_istore_n (lv' := [(3, .int (x2 + (0 : Int32))), (2, .int (x13 + x12)), (4, .int x1), (0, .ref q_p0), (1, .int a1_x)]) hx hb d_B_count_57 rfl hl (by decide) rfl (fun ls hl => ?_)
            refine lv_iinc (v := x1 + 1) (lv' := [(4, .int (x1 + 1)), (3, .int (x2 + (0 : Int32))), (2, .int (x13 + x12)), (0, .ref q_p0), (1, .int a1_x)]) hx hb d_B_count_58 hl (k := 2) rfl rfl (by decide) rfl (fun ls hl => ?_)
            refine lv_goto (tgt := 12) hx hb d_B_count_61 (by decide) ?_
            exact ih12 (x1 + 1) (x2 + (0 : Int32)) (x13 + x12) hm _ _ _ hw hl
          · refine lv_iconst (v := 1) hx hb d_B_count_51 (by decide) ?_
            refine lv_goto (tgt := 56) hx hb d_B_count_52 (by decide) ?_
            refine lv_iadd hx hb d_B_count_56 ?_
            refine lv_istore_n (lv' := [(3, .int (x2 + (1 : Int32))), (2, .int (x13 + x12)), (4, .int x1), (0, .ref q_p0), (1, .int a1_x)]) hx hb d_B_count_57 rfl hl (by decide) rfl (fun ls hl => ?_)
            refine lv_iinc (v := x1 + 1) (lv' := [(4, .int (x1 + 1)), (3, .int (x2 + (1 : Int32))), (2, .int (x13 + x12)), (0, .ref q_p0), (1, .int a1_x)]) hx hb d_B_count_58 hl (k := 2) rfl rfl (by decide) rfl (fun ls hl => ?_)
            refine lv_goto (tgt := 12) hx hb d_B_count_61 (by decide) ?_
            exact ih12 (x1 + 1) (x2 + (1 : Int32)) (x13 + x12) hm _ _ _ hw hl
        refine bq_t (lv_if_eq (tgt := 36) hx hb d_B_count_29 (by decide)) hm (fun hm => ?_) (fun hm => ?_)
        · refine lv_iconst (v := 0) hx hb d_B_count_36 (by decide) ?_
          exact J37 (0 : Int32) x3 hm _ _ _ hw (lv_sub hl [0, 1, 3, 4] rfl)
        · refine lv_iconst (v := 1) hx hb d_B_count_32 (by decide) ?_
          refine lv_goto (tgt := 37) hx hb d_B_count_33 (by decide) ?_
          exact J37 (1 : Int32) x3 hm _ _ _ hw (lv_sub hl [0, 1, 3, 4] rfl)
  exact L12 _ _ _ _ hm _ _ _ hw hl
theorem d_JA_fill_0 : decode prog_18_method_101_code 0 = .ok (.iconst 0, 1) := by decide +kernel
theorem d_JA_fill_1 : decode prog_18_method_101_code 1 = .ok (.istore_n 3, 1) := by decide +kernel
theorem d_JA_fill_2 : decode prog_18_method_101_code 2 = .ok (.aload_n 0, 1) := by decide +kernel
theorem d_JA_fill_3 : decode prog_18_method_101_code 3 = .ok (.arraylength, 1) := by decide +kernel
theorem d_JA_fill_4 : decode prog_18_method_101_code 4 = .ok (.istore 4, 2) := by decide +kernel
theorem d_JA_fill_6 : decode prog_18_method_101_code 6 = .ok (.iload_n 3, 1) := by decide +kernel
theorem d_JA_fill_7 : decode prog_18_method_101_code 7 = .ok (.iload 4, 2) := by decide +kernel
theorem d_JA_fill_9 : decode prog_18_method_101_code 9 = .ok (.if_icmp .ge 13, 3) := by decide +kernel
theorem d_JA_fill_12 : decode prog_18_method_101_code 12 = .ok (.aload_n 0, 1) := by decide +kernel
theorem d_JA_fill_13 : decode prog_18_method_101_code 13 = .ok (.iload_n 3, 1) := by decide +kernel
theorem d_JA_fill_14 : decode prog_18_method_101_code 14 = .ok (.lload_n 1, 1) := by decide +kernel
theorem d_JA_fill_15 : decode prog_18_method_101_code 15 = .ok (.lastore, 1) := by decide +kernel
theorem d_JA_fill_16 : decode prog_18_method_101_code 16 = .ok (.iinc 3 1, 3) := by decide +kernel
theorem d_JA_fill_19 : decode prog_18_method_101_code 19 = .ok (.goto (-13), 3) := by decide +kernel
theorem d_JA_fill_22 : decode prog_18_method_101_code 22 = .ok (.return_, 1) := by decide +kernel
def md_JA_fill_F6 (a1_x : Int64) (n_p0 : Nat) (rec6 : Int32 → (Nat → Int64) → Option ((Nat → Int64))) (x1 : Int32) (f2 : Nat → Int64) : Option ((Nat → Int64)) :=
  (if (Int32.ofNat n_p0) ≤ x1 then (some f2) else (if sg_in x1 n_p0 = true then zl (vp_updL f2 x1.toNatClampNeg a1_x) (fun f3 => (rec6 (x1 + 1) f3)) else none))
def md_JA_fill (N : Nat) (n_p0 : Nat) (f_p0 : Nat → Int64) (a1_x : Int64) : Option ((Nat → Int64)) :=
  (fx2 (md_JA_fill_F6 a1_x n_p0) N (0 : Int32) f_p0)
abbrev sc_JA_fill (cI cL cM cZ : ClassId) (q_p0 : Nat) (n_p0 : Nat) (f_p0 : Nat → Int64) : List va_W := [[(q_p0, .inl (cL, n_p0, .inr (.inl f_p0)))]]
abbrev rm_JA_fill : Room := { frames := 0, cells := 0, slots := 0, locals := 0 }
set_option maxHeartbeats 4000000 in
set_option maxRecDepth 100000 in
theorem ct_JA_fill (l : Launch) (dC : Nat → ClassId) (dI : Nat → Nat → Nat) (cI cL cM cZ : ClassId) (q_p0 : Nat) (n_p0 : Nat) (f_p0 : Nat → Int64) (a1_x : Int64) (N : Nat) (o : (Nat → Int64)) (hm : md_JA_fill N n_p0 f_p0 a1_x = some o) : ∀ sz : Nat, Met l y_JA_fill ws_JA_fill rm_JA_fill (cP (dC, dI) vwCl [(cI, .int), (cL, .long), (cM, .array .int), (cZ, .boolean)] [.ref q_p0, .long a1_x] sz (sc_JA_fill cI cL cM cZ q_p0 n_p0 f_p0)) (cQv (dC, dI) vwCl [(cI, .int), (cL, .long), (cM, .array .int), (cZ, .boolean)] sz (sc_JA_fill cI cL cM cZ q_p0 n_p0 f_p0) (sc_JA_fill cI cL cM cZ q_p0 n_p0 o)) 0 0 (va_A ((sc_JA_fill cI cL cM cZ q_p0 n_p0 f_p0)).flatten sz) := by
  refine sg_metF (fun sz => cQv (dC, dI) vwCl [(cI, .int), (cL, .long), (cM, .array .int), (cZ, .boolean)] sz (sc_JA_fill cI cL cM cZ q_p0 n_p0 f_p0) (sc_JA_fill cI cL cM cZ q_p0 n_p0 o)) (by decide +kernel) (Nat.le_of_ble_eq_true rfl) ?_
  intro p e s m args below meth c A Q ls hx hb hr hts hown hlocks hml hname hK hNW hA hAe hQ hw hl
  have hl : lv_has ls 5 [(0, .ref q_p0), (1, .long a1_x)] := hl
  have hw : wk (dC, dI) vwCl A s.heap [[(q_p0, .inl (cL, n_p0, .inr (.inl f_p0)))]] s.heap [] := hw
  unfold md_JA_fill at hm
  refine lv_iconst (v := 0) hx hb d_JA_fill_0 (by decide) ?_
  refine lv_istore_n (lv' := [(3, .int (0 : Int32)), (0, .ref q_p0), (1, .long a1_x)]) hx hb d_JA_fill_1 rfl hl (by decide) rfl (fun ls hl => ?_)
  refine lv_aload_n hx hb d_JA_fill_2 rfl (lv_at hl 1 rfl) ?_
  refine sg_alen (v := Int32.ofNat n_p0) hx hb hK hw 0 1 rfl rfl rfl d_JA_fill_3 ?_
  refine lv_istore (lv' := [(4, .int (Int32.ofNat n_p0)), (3, .int (0 : Int32)), (0, .ref q_p0), (1, .long a1_x)]) hx hb d_JA_fill_4 hl (by decide) rfl (fun ls hl => ?_)
  obtain ⟨Fn6, hFn6, hm⟩ := fx2_x hm
  have L6 : ∀ (n : Nat) (x1 : Int32) (f2 : Nat → Int64), fx2 Fn6 n x1 f2 = some o → ∀ (H : Heap) (locs : List Loc) (ls : Array Slot), wk (dC, dI) vwCl A s.heap [[(q_p0, .inl (cL, n_p0, .inr (.inl f2)))]] H locs → lv_has ls 5 [(4, .int (Int32.ofNat n_p0)), (3, .int x1), (0, .ref q_p0), (1, .long a1_x)] → W p l e rm_JA_fill s m args below meth c H locs 0 0 Q (F0 m 6 ls []) := by
    intro n
    induction n with
    | zero => intro x1 f2 hm; exact (fx2_0 hm).elim
    | succ n ih6 =>
      intro x1 f2 hm H locs ls hw hl
      have hm := fx2_s hFn6 hm
      unfold md_JA_fill_F6 at hm
      refine lv_iload_n hx hb d_JA_fill_6 rfl (lv_at hl 1 rfl) ?_
      refine lv_iload hx hb d_JA_fill_7 (lv_at hl 0 rfl) ?_
      refine bq_t (lv_icmp_ge (tgt := 22) hx hb d_JA_fill_9 (by decide)) hm (fun hm => ?_) (fun hm => ?_)
      · exact so_vret (Sf := fun z_ => sc_JA_fill cI cL cM cZ q_p0 n_p0 z_) hm hx hb hr hlocks hAe hQ hK hw d_JA_fill_22
      · refine lv_aload_n hx hb d_JA_fill_12 rfl (lv_at hl 2 rfl) ?_
        refine lv_iload_n hx hb d_JA_fill_13 rfl (lv_at hl 1 rfl) ?_
        refine lv_lload_n hx hb d_JA_fill_14 rfl (lv_at hl 3 rfl) ?_
        refine sg_last (S1 := fun f3 => [[(q_p0, .inl (cL, n_p0, .inr (.inl f3)))]]) hx hb hK hw 0 1 rfl rfl d_JA_fill_15 (fun _ => rfl) hm (fun f3 H locs hm hw => ?_)
        refine lv_iinc (v := x1 + 1) (lv' := [(3, .int (x1 + 1)), (4, .int (Int32.ofNat n_p0)), (0, .ref q_p0), (1, .long a1_x)]) hx hb d_JA_fill_16 hl (k := 1) rfl rfl (by decide) rfl (fun ls hl => ?_)
        refine lv_goto (tgt := 6) hx hb d_JA_fill_19 (by decide) ?_
        exact ih6 (x1 + 1) f3 hm _ _ _ hw (lv_sub hl [1, 0, 2, 3] rfl)
  exact L6 _ _ _ hm _ _ _ hw hl
