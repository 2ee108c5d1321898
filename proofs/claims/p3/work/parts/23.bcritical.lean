theorem d_B_mean_0 : decode prog_11_method_32_code 0 = .ok (.aload_n 0, 1) := by decide +kernel
theorem d_B_mean_1 : decode prog_11_method_32_code 1 = .ok (.iload_n 1, 1) := by decide +kernel
theorem d_B_mean_2 : decode prog_11_method_32_code 2 = .ok (.invokevirtual 170, 3) := by decide +kernel
theorem d_B_mean_5 : decode prog_11_method_32_code 5 = .ok (.ifCond .eq 16, 3) := by decide +kernel
theorem d_B_mean_8 : decode prog_11_method_32_code 8 = .ok (.iload_n 2, 1) := by decide +kernel
theorem d_B_mean_9 : decode prog_11_method_32_code 9 = .ok (.ifCond .lt 12, 3) := by decide +kernel
theorem d_B_mean_12 : decode prog_11_method_32_code 12 = .ok (.iload_n 2, 1) := by decide +kernel
theorem d_B_mean_13 : decode prog_11_method_32_code 13 = .ok (.iconst 1, 1) := by decide +kernel
theorem d_B_mean_14 : decode prog_11_method_32_code 14 = .ok (.if_icmp .gt 7, 3) := by decide +kernel
theorem d_B_mean_17 : decode prog_11_method_32_code 17 = .ok (.iconst 1, 1) := by decide +kernel
theorem d_B_mean_18 : decode prog_11_method_32_code 18 = .ok (.goto 4, 3) := by decide +kernel
theorem d_B_mean_21 : decode prog_11_method_32_code 21 = .ok (.iconst 0, 1) := by decide +kernel
theorem d_B_mean_22 : decode prog_11_method_32_code 22 = .ok (.istore_n 3, 1) := by decide +kernel
theorem d_B_mean_23 : decode prog_11_method_32_code 23 = .ok (.aload_n 0, 1) := by decide +kernel
theorem d_B_mean_24 : decode prog_11_method_32_code 24 = .ok (.iload_n 3, 1) := by decide +kernel
theorem d_B_mean_25 : decode prog_11_method_32_code 25 = .ok (.ifCond .eq 16, 3) := by decide +kernel
theorem d_B_mean_28 : decode prog_11_method_32_code 28 = .ok (.aload_n 0, 1) := by decide +kernel
theorem d_B_mean_29 : decode prog_11_method_32_code 29 = .ok (.getfield 74, 3) := by decide +kernel
theorem d_B_mean_32 : decode prog_11_method_32_code 32 = .ok (.iload_n 1, 1) := by decide +kernel
theorem d_B_mean_33 : decode prog_11_method_32_code 33 = .ok (.iaload, 1) := by decide +kernel
theorem d_B_mean_34 : decode prog_11_method_32_code 34 = .ok (.ifCond .ne 7, 3) := by decide +kernel
theorem d_B_mean_37 : decode prog_11_method_32_code 37 = .ok (.iconst 1, 1) := by decide +kernel
theorem d_B_mean_38 : decode prog_11_method_32_code 38 = .ok (.goto 4, 3) := by decide +kernel
theorem d_B_mean_41 : decode prog_11_method_32_code 41 = .ok (.iconst 0, 1) := by decide +kernel
theorem d_B_mean_42 : decode prog_11_method_32_code 42 = .ok (.putfield 105, 3) := by decide +kernel
theorem d_B_mean_45 : decode prog_11_method_32_code 45 = .ok (.iload_n 3, 1) := by decide +kernel
theorem d_B_mean_46 : decode prog_11_method_32_code 46 = .ok (.ifCond .ne 7, 3) := by decide +kernel
theorem d_B_mean_49 : decode prog_11_method_32_code 49 = .ok (.ldc2_w 193, 3) := by decide +kernel
theorem d_B_mean_52 : decode prog_11_method_32_code 52 = .ok (.lreturn, 1) := by decide +kernel
theorem d_B_mean_53 : decode prog_11_method_32_code 53 = .ok (.aload_n 0, 1) := by decide +kernel
theorem d_B_mean_54 : decode prog_11_method_32_code 54 = .ok (.getfield 105, 3) := by decide +kernel
theorem d_B_mean_57 : decode prog_11_method_32_code 57 = .ok (.ifCond .le 7, 3) := by decide +kernel
theorem d_B_mean_60 : decode prog_11_method_32_code 60 = .ok (.lconst 0, 1) := by decide +kernel
theorem d_B_mean_61 : decode prog_11_method_32_code 61 = .ok (.goto 38, 3) := by decide +kernel
theorem d_B_mean_64 : decode prog_11_method_32_code 64 = .ok (.iload_n 2, 1) := by decide +kernel
theorem d_B_mean_65 : decode prog_11_method_32_code 65 = .ok (.ifCond .ne 20, 3) := by decide +kernel
theorem d_B_mean_68 : decode prog_11_method_32_code 68 = .ok (.aload_n 0, 1) := by decide +kernel
theorem d_B_mean_69 : decode prog_11_method_32_code 69 = .ok (.getfield 71, 3) := by decide +kernel
theorem d_B_mean_72 : decode prog_11_method_32_code 72 = .ok (.iload_n 1, 1) := by decide +kernel
theorem d_B_mean_73 : decode prog_11_method_32_code 73 = .ok (.laload, 1) := by decide +kernel
theorem d_B_mean_74 : decode prog_11_method_32_code 74 = .ok (.aload_n 0, 1) := by decide +kernel
theorem d_B_mean_75 : decode prog_11_method_32_code 75 = .ok (.getfield 74, 3) := by decide +kernel
theorem d_B_mean_78 : decode prog_11_method_32_code 78 = .ok (.iload_n 1, 1) := by decide +kernel
theorem d_B_mean_79 : decode prog_11_method_32_code 79 = .ok (.iaload, 1) := by decide +kernel
theorem d_B_mean_80 : decode prog_11_method_32_code 80 = .ok (.i2l, 1) := by decide +kernel
theorem d_B_mean_81 : decode prog_11_method_32_code 81 = .ok (.ldiv, 1) := by decide +kernel
theorem d_B_mean_82 : decode prog_11_method_32_code 82 = .ok (.goto 17, 3) := by decide +kernel
theorem d_B_mean_85 : decode prog_11_method_32_code 85 = .ok (.aload_n 0, 1) := by decide +kernel
theorem d_B_mean_86 : decode prog_11_method_32_code 86 = .ok (.getfield 71, 3) := by decide +kernel
theorem d_B_mean_89 : decode prog_11_method_32_code 89 = .ok (.iload_n 1, 1) := by decide +kernel
theorem d_B_mean_90 : decode prog_11_method_32_code 90 = .ok (.laload, 1) := by decide +kernel
theorem d_B_mean_91 : decode prog_11_method_32_code 91 = .ok (.aload_n 0, 1) := by decide +kernel
theorem d_B_mean_92 : decode prog_11_method_32_code 92 = .ok (.getfield 74, 3) := by decide +kernel
theorem d_B_mean_95 : decode prog_11_method_32_code 95 = .ok (.iload_n 1, 1) := by decide +kernel
theorem d_B_mean_96 : decode prog_11_method_32_code 96 = .ok (.iaload, 1) := by decide +kernel
theorem d_B_mean_97 : decode prog_11_method_32_code 97 = .ok (.i2l, 1) := by decide +kernel
theorem d_B_mean_98 : decode prog_11_method_32_code 98 = .ok (.lrem, 1) := by decide +kernel
theorem d_B_mean_99 : decode prog_11_method_32_code 99 = .ok (.lreturn, 1) := by decide +kernel
def md_B_mean (N : Nat) (v_p0_code : Int32) (v_p0_jobs : Int32) (f_p0_sums : Nat → Int64) (f_p0_kept : Nat → Int32) (a1_x : Int32) (a2_x : Int32) : Option (Int64 × Int32) :=
  (zc (md_B_isJob N v_p0_jobs a1_x) (fun o1 => (zl (fun (x2 : Int32) => (zl (fun (x3 : Int32) => (if x2 = 0 then (some ((-1 : Int64), x3)) else (if x3 ≤ 0 then (if a2_x = 0 then (if sg_in a1_x 27 = true then (if sg_in a1_x 27 = true then (if ¬ ((f_p0_kept a1_x.toNatClampNeg).toInt64) = (0 : Int64) then (some ((f_p0_sums a1_x.toNatClampNeg) / ((f_p0_kept a1_x.toNatClampNeg).toInt64), x3)) else none) else none) else none) else (if sg_in a1_x 27 = true then (if sg_in a1_x 27 = true then (if ¬ ((f_p0_kept a1_x.toNatClampNeg).toInt64) = (0 : Int64) then (some ((f_p0_sums a1_x.toNatClampNeg) - (f_p0_sums a1_x.toNatClampNeg) / ((f_p0_kept a1_x.toNatClampNeg).toInt64) * ((f_p0_kept a1_x.toNatClampNeg).toInt64), x3)) else none) else none) else none)) else (some ((0 : Int64), x3))))) (fun k42 => (zl (k42 (0 : Int32)) (fun k41 => (if x2 = 0 then (k41) else (if sg_in a1_x 27 = true then (if (f_p0_kept a1_x.toNatClampNeg) = 0 then (k42 (1 : Int32)) else (k41)) else none))))))) (fun k22 => (zl (k22 (0 : Int32)) (fun k21 => (if o1 = 0 then (k21) else (if a2_x < 0 then (k21) else (if (1 : Int32) < a2_x then (k21) else (k22 (1 : Int32)))))))))))
abbrev sc_B_mean (cI cL cM cZ : ClassId) (q_p0 q_p0_text q_p0_names q_p0_calendars q_p0_priorities q_p0_starts q_p0_estimates q_p0_many q_p0_newNames q_p0_numbers q_p0_newMany q_p0_needs q_p0_conditions q_p0_newNeeds q_p0_newConditions q_p0_needPlaces q_p0_rules q_p0_of q_p0_holidays q_p0_states q_p0_ran q_p0_sums q_p0_kept q_p0_startedJob q_p0_startedAt q_p0_ring q_p0_came q_p0_level q_p0_again q_p0_way q_p0_before q_p0_path : Nat) (v_p0_code : Int32) (v_p0_length : Int32) (v_p0_jobs : Int32) (v_p0_newJobs : Int32) (v_p0_made : Int32) (v_p0_days : Int32) (v_p0_now : Int64) (v_p0_started : Int32) (v_p0_ringSize : Int32) (v_p0_place : Int32) (f_p0_sums : Nat → Int64) (f_p0_kept : Nat → Int32) : List va_W := [[(q_p0, .inr (9, [.int v_p0_code, .ref q_p0_text, .int v_p0_length, .int v_p0_jobs, .int v_p0_newJobs, .ref q_p0_names, .ref q_p0_calendars, .ref q_p0_priorities, .ref q_p0_starts, .ref q_p0_estimates, .ref q_p0_many, .ref q_p0_newNames, .ref q_p0_numbers, .ref q_p0_newMany, .ref q_p0_needs, .ref q_p0_conditions, .ref q_p0_newNeeds, .ref q_p0_newConditions, .ref q_p0_needPlaces, .ref q_p0_rules, .ref q_p0_of, .int v_p0_made, .ref q_p0_holidays, .int v_p0_days, .ref q_p0_states, .ref q_p0_ran, .ref q_p0_sums, .ref q_p0_kept, .long v_p0_now, .ref q_p0_startedJob, .ref q_p0_startedAt, .int v_p0_started, .ref q_p0_ring, .ref q_p0_came, .ref q_p0_level, .int v_p0_ringSize, .ref q_p0_again, .ref q_p0_way, .ref q_p0_before, .ref q_p0_path, .int v_p0_place]))], [(q_p0_sums, .inl (cL, 27, .inr (.inl f_p0_sums)))], [(q_p0_kept, .inl (cI, 27, .inl f_p0_kept))]]
abbrev rm_B_mean : Room := { frames := 1, cells := 0, slots := 0, locals := 21 }
set_option maxHeartbeats 4000000 in
set_option maxRecDepth 100000 in
theorem ct_B_mean (l : Launch) (dC : Nat → ClassId) (dI : Nat → Nat → Nat) (cI cL cM cZ : ClassId) (q_p0 q_p0_text q_p0_names q_p0_calendars q_p0_priorities q_p0_starts q_p0_estimates q_p0_many q_p0_newNames q_p0_numbers q_p0_newMany q_p0_needs q_p0_conditions q_p0_newNeeds q_p0_newConditions q_p0_needPlaces q_p0_rules q_p0_of q_p0_holidays q_p0_states q_p0_ran q_p0_sums q_p0_kept q_p0_startedJob q_p0_startedAt q_p0_ring q_p0_came q_p0_level q_p0_again q_p0_way q_p0_before q_p0_path : Nat) (v_p0_code : Int32) (v_p0_length : Int32) (v_p0_jobs : Int32) (v_p0_newJobs : Int32) (v_p0_made : Int32) (v_p0_days : Int32) (v_p0_now : Int64) (v_p0_started : Int32) (v_p0_ringSize : Int32) (v_p0_place : Int32) (f_p0_sums : Nat → Int64) (f_p0_kept : Nat → Int32) (a1_x : Int32) (a2_x : Int32) (N : Nat) (o : Int64 × Int32) (hm : md_B_mean N v_p0_code v_p0_jobs f_p0_sums f_p0_kept a1_x a2_x = some o) : ∀ sz : Nat, Met l y_B_mean ws_B_mean rm_B_mean (cP (dC, dI) vwCl [(cI, .int), (cL, .long), (cM, .array .int), (cZ, .boolean)] [.ref q_p0, .int a1_x, .int a2_x] sz (sc_B_mean cI cL cM cZ q_p0 q_p0_text q_p0_names q_p0_calendars q_p0_priorities q_p0_starts q_p0_estimates q_p0_many q_p0_newNames q_p0_numbers q_p0_newMany q_p0_needs q_p0_conditions q_p0_newNeeds q_p0_newConditions q_p0_needPlaces q_p0_rules q_p0_of q_p0_holidays q_p0_states q_p0_ran q_p0_sums q_p0_kept q_p0_startedJob q_p0_startedAt q_p0_ring q_p0_came q_p0_level q_p0_again q_p0_way q_p0_before q_p0_path v_p0_code v_p0_length v_p0_jobs v_p0_newJobs v_p0_made v_p0_days v_p0_now v_p0_started v_p0_ringSize v_p0_place f_p0_sums f_p0_kept)) (cQl (dC, dI) vwCl [(cI, .int), (cL, .long), (cM, .array .int), (cZ, .boolean)] sz (sc_B_mean cI cL cM cZ q_p0 q_p0_text q_p0_names q_p0_calendars q_p0_priorities q_p0_starts q_p0_estimates q_p0_many q_p0_newNames q_p0_numbers q_p0_newMany q_p0_needs q_p0_conditions q_p0_newNeeds q_p0_newConditions q_p0_needPlaces q_p0_rules q_p0_of q_p0_holidays q_p0_states q_p0_ran q_p0_sums q_p0_kept q_p0_startedJob q_p0_startedAt q_p0_ring q_p0_came q_p0_level q_p0_again q_p0_way q_p0_before q_p0_path v_p0_code v_p0_length v_p0_jobs v_p0_newJobs v_p0_made v_p0_days v_p0_now v_p0_started v_p0_ringSize v_p0_place f_p0_sums f_p0_kept) o.1 (sc_B_mean cI cL cM cZ q_p0 q_p0_text q_p0_names q_p0_calendars q_p0_priorities q_p0_starts q_p0_estimates q_p0_many q_p0_newNames q_p0_numbers q_p0_newMany q_p0_needs q_p0_conditions q_p0_newNeeds q_p0_newConditions q_p0_needPlaces q_p0_rules q_p0_of q_p0_holidays q_p0_states q_p0_ran q_p0_sums q_p0_kept q_p0_startedJob q_p0_startedAt q_p0_ring q_p0_came q_p0_level q_p0_again q_p0_way q_p0_before q_p0_path o.2 v_p0_length v_p0_jobs v_p0_newJobs v_p0_made v_p0_days v_p0_now v_p0_started v_p0_ringSize v_p0_place f_p0_sums f_p0_kept)) 0 0 (va_A ((sc_B_mean cI cL cM cZ q_p0 q_p0_text q_p0_names q_p0_calendars q_p0_priorities q_p0_starts q_p0_estimates q_p0_many q_p0_newNames q_p0_numbers q_p0_newMany q_p0_needs q_p0_conditions q_p0_newNeeds q_p0_newConditions q_p0_needPlaces q_p0_rules q_p0_of q_p0_holidays q_p0_states q_p0_ran q_p0_sums q_p0_kept q_p0_startedJob q_p0_startedAt q_p0_ring q_p0_came q_p0_level q_p0_again q_p0_way q_p0_before q_p0_path v_p0_code v_p0_length v_p0_jobs v_p0_newJobs v_p0_made v_p0_days v_p0_now v_p0_started v_p0_ringSize v_p0_place f_p0_sums f_p0_kept)).flatten sz) := by
  refine sg_met (fun sz => cQl (dC, dI) vwCl [(cI, .int), (cL, .long), (cM, .array .int), (cZ, .boolean)] sz (sc_B_mean cI cL cM cZ q_p0 q_p0_text q_p0_names q_p0_calendars q_p0_priorities q_p0_starts q_p0_estimates q_p0_many q_p0_newNames q_p0_numbers q_p0_newMany q_p0_needs q_p0_conditions q_p0_newNeeds q_p0_newConditions q_p0_needPlaces q_p0_rules q_p0_of q_p0_holidays q_p0_states q_p0_ran q_p0_sums q_p0_kept q_p0_startedJob q_p0_startedAt q_p0_ring q_p0_came q_p0_level q_p0_again q_p0_way q_p0_before q_p0_path v_p0_code v_p0_length v_p0_jobs v_p0_newJobs v_p0_made v_p0_days v_p0_now v_p0_started v_p0_ringSize v_p0_place f_p0_sums f_p0_kept) o.1 (sc_B_mean cI cL cM cZ q_p0 q_p0_text q_p0_names q_p0_calendars q_p0_priorities q_p0_starts q_p0_estimates q_p0_many q_p0_newNames q_p0_numbers q_p0_newMany q_p0_needs q_p0_conditions q_p0_newNeeds q_p0_newConditions q_p0_needPlaces q_p0_rules q_p0_of q_p0_holidays q_p0_states q_p0_ran q_p0_sums q_p0_kept q_p0_startedJob q_p0_startedAt q_p0_ring q_p0_came q_p0_level q_p0_again q_p0_way q_p0_before q_p0_path o.2 v_p0_length v_p0_jobs v_p0_newJobs v_p0_made v_p0_days v_p0_now v_p0_started v_p0_ringSize v_p0_place f_p0_sums f_p0_kept)) (by decide) (Nat.le_of_ble_eq_true rfl) ?_
  intro p e s m args below meth c A Q ls hx hb hr hts hown hlocks hml hname hK hNW hA hAe hQ hw hl
  have hl : lv_has ls 4 [(0, .ref q_p0), (1, .int a1_x), (2, .int a2_x)] := hl
  have hw : wk (dC, dI) vwCl A s.heap [[(q_p0, .inr (9, [.int v_p0_code, .ref q_p0_text, .int v_p0_length, .int v_p0_jobs, .int v_p0_newJobs, .ref q_p0_names, .ref q_p0_calendars, .ref q_p0_priorities, .ref q_p0_starts, .ref q_p0_estimates, .ref q_p0_many, .ref q_p0_newNames, .ref q_p0_numbers, .ref q_p0_newMany, .ref q_p0_needs, .ref q_p0_conditions, .ref q_p0_newNeeds, .ref q_p0_newConditions, .ref q_p0_needPlaces, .ref q_p0_rules, .ref q_p0_of, .int v_p0_made, .ref q_p0_holidays, .int v_p0_days, .ref q_p0_states, .ref q_p0_ran, .ref q_p0_sums, .ref q_p0_kept, .long v_p0_now, .ref q_p0_startedJob, .ref q_p0_startedAt, .int v_p0_started, .ref q_p0_ring, .ref q_p0_came, .ref q_p0_level, .int v_p0_ringSize, .ref q_p0_again, .ref q_p0_way, .ref q_p0_before, .ref q_p0_path, .int v_p0_place]))], [(q_p0_sums, .inl (cL, 27, .inr (.inl f_p0_sums)))], [(q_p0_kept, .inl (cI, 27, .inl f_p0_kept))]] s.heap [] := hw
  unfold md_B_mean at hm
  refine lv_aload_n hx hb d_B_mean_0 rfl (lv_at hl 0 rfl) ?_
  refine lv_iload_n hx hb d_B_mean_1 rfl (lv_at hl 1 rfl) ?_
  obtain ⟨o1, h1, hm⟩ := zc_x hm
  refine sg_ci0 (Sr := [[(q_p0_sums, .inl (cL, 27, .inr (.inl f_p0_sums)))], [(q_p0_kept, .inl (cI, 27, .inl f_p0_kept))]]) (va_runV (As := [.int a1_x]) (rest := []) ⟨hx, hb, hml, hown, hts⟩ (ct_B_isJob l dC dI cI cL cM cZ q_p0 q_p0_text q_p0_names q_p0_calendars q_p0_priorities q_p0_starts q_p0_estimates q_p0_many q_p0_newNames q_p0_numbers q_p0_newMany q_p0_needs q_p0_conditions q_p0_newNeeds q_p0_newConditions q_p0_needPlaces q_p0_rules q_p0_of q_p0_holidays q_p0_states q_p0_ran q_p0_sums q_p0_kept q_p0_startedJob q_p0_startedAt q_p0_ring q_p0_came q_p0_level q_p0_again q_p0_way q_p0_before q_p0_path v_p0_code v_p0_length v_p0_jobs v_p0_newJobs v_p0_made v_p0_days v_p0_now v_p0_started v_p0_ringSize v_p0_place a1_x N o1 h1 _) (cwV 1 hts (gd_V wd_795 wd_797 ws_29 wd_10 wd_798) rfl rfl rfl (by decide +kernel) ⟨Nat.le_of_ble_eq_true rfl, Nat.le_of_ble_eq_true rfl⟩) (sg_preV (ci := 9) (q0 := 0) hK hNW hw [0] rfl rfl rfl rfl) rfl rfl hl.1 rfl (lv_room (Nat.le_of_ble_eq_true rfl)) d_B_mean_2 ⟨Nat.le_of_ble_eq_true rfl, Nat.le_of_ble_eq_true rfl⟩) hw hA [0] [1, 2] rfl rfl rfl (by decide) (fun H locs hw => ?_)
  have hw : wk (dC, dI) vwCl A s.heap [[(q_p0_sums, .inl (cL, 27, .inr (.inl f_p0_sums)))], [(q_p0_kept, .inl (cI, 27, .inl f_p0_kept))], [(q_p0, .inr (9, [.int v_p0_code, .ref q_p0_text, .int v_p0_length, .int v_p0_jobs, .int v_p0_newJobs, .ref q_p0_names, .ref q_p0_calendars, .ref q_p0_priorities, .ref q_p0_starts, .ref q_p0_estimates, .ref q_p0_many, .ref q_p0_newNames, .ref q_p0_numbers, .ref q_p0_newMany, .ref q_p0_needs, .ref q_p0_conditions, .ref q_p0_newNeeds, .ref q_p0_newConditions, .ref q_p0_needPlaces, .ref q_p0_rules, .ref q_p0_of, .int v_p0_made, .ref q_p0_holidays, .int v_p0_days, .ref q_p0_states, .ref q_p0_ran, .ref q_p0_sums, .ref q_p0_kept, .long v_p0_now, .ref q_p0_startedJob, .ref q_p0_startedAt, .int v_p0_started, .ref q_p0_ring, .ref q_p0_came, .ref q_p0_level, .int v_p0_ringSize, .ref q_p0_again, .ref q_p0_way, .ref q_p0_before, .ref q_p0_path, .int v_p0_place]))]] H locs := hw
  obtain ⟨k22, hk22, hm⟩ := zl_x hm
  have J22 : ∀ (x2 : Int32) , k22 x2 = some o → ∀ (H : Heap) (locs : List Loc) (ls : Array Slot), wk (dC, dI) vwCl A s.heap [[(q_p0_sums, .inl (cL, 27, .inr (.inl f_p0_sums)))], [(q_p0_kept, .inl (cI, 27, .inl f_p0_kept))], [(q_p0, .inr (9, [.int v_p0_code, .ref q_p0_text, .int v_p0_length, .int v_p0_jobs, .int v_p0_newJobs, .ref q_p0_names, .ref q_p0_calendars, .ref q_p0_priorities, .ref q_p0_starts, .ref q_p0_estimates, .ref q_p0_many, .ref q_p0_newNames, .ref q_p0_numbers, .ref q_p0_newMany, .ref q_p0_needs, .ref q_p0_conditions, .ref q_p0_newNeeds, .ref q_p0_newConditions, .ref q_p0_needPlaces, .ref q_p0_rules, .ref q_p0_of, .int v_p0_made, .ref q_p0_holidays, .int v_p0_days, .ref q_p0_states, .ref q_p0_ran, .ref q_p0_sums, .ref q_p0_kept, .long v_p0_now, .ref q_p0_startedJob, .ref q_p0_startedAt, .int v_p0_started, .ref q_p0_ring, .ref q_p0_came, .ref q_p0_level, .int v_p0_ringSize, .ref q_p0_again, .ref q_p0_way, .ref q_p0_before, .ref q_p0_path, .int v_p0_place]))]] H locs → lv_has ls 4 [(0, .ref q_p0), (1, .int a1_x), (2, .int a2_x)] → W p l e rm_B_mean s m args below meth c H locs 0 0 Q (F0 m 22 ls [.int x2]) := by
    intro x2 hm H locs ls hw hl
    subst hk22
    refine lv_istore_n (lv' := [(3, .int x2), (0, .ref q_p0), (1, .int a1_x), (2, .int a2_x)]) hx hb d_B_mean_22 rfl hl (by decide) rfl (fun ls hl => ?_)
    refine lv_aload_n hx hb d_B_mean_23 rfl (lv_at hl 1 rfl) ?_
    refine lv_iload_n hx hb d_B_mean_24 rfl (lv_at hl 0 rfl) ?_
    obtain ⟨k42, hk42, hm⟩ := zl_x hm
    have J42 : ∀ (x3 : Int32) , k42 x3 = some o → ∀ (H : Heap) (locs : List Loc) (ls : Array Slot), wk (dC, dI) vwCl A s.heap [[(q_p0_sums, .inl (cL, 27, .inr (.inl f_p0_sums)))], [(q_p0_kept, .inl (cI, 27, .inl f_p0_kept))], [(q_p0, .inr (9, [.int v_p0_code, .ref q_p0_text, .int v_p0_length, .int v_p0_jobs, .int v_p0_newJobs, .ref q_p0_names, .ref q_p0_calendars, .ref q_p0_priorities, .ref q_p0_starts, .ref q_p0_estimates, .ref q_p0_many, .ref q_p0_newNames, .ref q_p0_numbers, .ref q_p0_newMany, .ref q_p0_needs, .ref q_p0_conditions, .ref q_p0_newNeeds, .ref q_p0_newConditions, .ref q_p0_needPlaces, .ref q_p0_rules, .ref q_p0_of, .int v_p0_made, .ref q_p0_holidays, .int v_p0_days, .ref q_p0_states, .ref q_p0_ran, .ref q_p0_sums, .ref q_p0_kept, .long v_p0_now, .ref q_p0_startedJob, .ref q_p0_startedAt, .int v_p0_started, .ref q_p0_ring, .ref q_p0_came, .ref q_p0_level, .int v_p0_ringSize, .ref q_p0_again, .ref q_p0_way, .ref q_p0_before, .ref q_p0_path, .int v_p0_place]))]] H locs → lv_has ls 4 [(3, .int x2), (0, .ref q_p0), (1, .int a1_x), (2, .int a2_x)] → W p l e rm_B_mean s m args below meth c H locs 0 0 Q (F0 m 42 ls [.int x3, .ref q_p0]) := by
      intro x3 hm H locs ls hw hl
      subst hk42
      refine sg_put (D := (dC, dI)) (ci := 9) (v := .int x3) (ty := .int) (C := "JobNetsModel") (T := T_9) (N := 41) (S1 := [[(q_p0_sums, .inl (cL, 27, .inr (.inl f_p0_sums)))], [(q_p0_kept, .inl (cI, 27, .inl f_p0_kept))], [(q_p0, .inr (9, [.int x3, .ref q_p0_text, .int v_p0_length, .int v_p0_jobs, .int v_p0_newJobs, .ref q_p0_names, .ref q_p0_calendars, .ref q_p0_priorities, .ref q_p0_starts, .ref q_p0_estimates, .ref q_p0_many, .ref q_p0_newNames, .ref q_p0_numbers, .ref q_p0_newMany, .ref q_p0_needs, .ref q_p0_conditions, .ref q_p0_newNeeds, .ref q_p0_newConditions, .ref q_p0_needPlaces, .ref q_p0_rules, .ref q_p0_of, .int v_p0_made, .ref q_p0_holidays, .int v_p0_days, .ref q_p0_states, .ref q_p0_ran, .ref q_p0_sums, .ref q_p0_kept, .long v_p0_now, .ref q_p0_startedJob, .ref q_p0_startedAt, .int v_p0_started, .ref q_p0_ring, .ref q_p0_came, .ref q_p0_level, .int v_p0_ringSize, .ref q_p0_again, .ref q_p0_way, .ref q_p0_before, .ref q_p0_path, .int v_p0_place]))]]) hx hb hts hin_9 ty_9 tok_9 nd_9 hown hK hw 2 rfl rfl 0 (by decide) (hts _ wd_616) rfl rfl (by decide +kernel) rfl rfl (Nat.le_of_ble_eq_true rfl) rfl d_B_mean_42 (fun H locs hw => ?_)
      refine lv_iload_n hx hb d_B_mean_45 rfl (lv_at hl 0 rfl) ?_
      refine bq_n (lv_if_ne (tgt := 53) hx hb d_B_mean_46 (by decide)) hm (fun hm => ?_) (fun hm => ?_)
      · refine lv_aload_n hx hb d_B_mean_53 rfl (lv_at hl 1 rfl) ?_
        refine sg_get (D := (dC, dI)) (ci := 9) (v := .int x3) (C := "JobNetsModel") (T := T_9) (N := 41) hx hb hts hin_9 hown hK hw 2 rfl rfl 0 (by decide) (hts _ wd_616) rfl rfl d_B_mean_54 ?_
        refine bq_t (lv_if_le (tgt := 64) hx hb d_B_mean_57 (by decide)) hm (fun hm => ?_) (fun hm => ?_)
        · refine lv_iload_n hx hb d_B_mean_64 rfl (lv_at hl 3 rfl) ?_
          refine bq_n (lv_if_ne (tgt := 85) hx hb d_B_mean_65 (by decide)) hm (fun hm => ?_) (fun hm => ?_)
          · refine lv_aload_n hx hb d_B_mean_85 rfl (lv_at hl 1 rfl) ?_
            refine sg_get (D := (dC, dI)) (ci := 9) (v := .ref q_p0_sums) (C := "JobNetsModel") (T := T_9) (N := 41) hx hb hts hin_9 hown hK hw 2 rfl rfl 26 (by decide) (hts _ wd_642) rfl rfl d_B_mean_86 ?_
            refine lv_iload_n hx hb d_B_mean_89 rfl (lv_at hl 2 rfl) ?_
            refine sg_lald hx hb hK hw 0 1 rfl rfl d_B_mean_90 hm (fun hm => ?_)
            refine lv_aload_n hx hb d_B_mean_91 rfl (lv_at hl 1 rfl) ?_
            refine sg_get (D := (dC, dI)) (ci := 9) (v := .ref q_p0_kept) (C := "JobNetsModel") (T := T_9) (N := 41) hx hb hts hin_9 hown hK hw 2 rfl rfl 27 (by decide) (hts _ wd_643) rfl rfl d_B_mean_92 ?_
            refine lv_iload_n hx hb d_B_mean_95 rfl (lv_at hl 2 rfl) ?_
            refine sg_iald hx hb hK hw 1 0 rfl rfl d_B_mean_96 hm (fun hm => ?_)
            refine lv_i2l hx hb d_B_mean_97 rfl ?_
            obtain ⟨hne, hm⟩ := it_n hm
            refine lv_lrem hx hb d_B_mean_98 hne ?_
            obtain rfl := Option.some.inj hm
            exact sg_lret hx hb hr hlocks hAe hQ hK (hw.sub [2, 0, 1] (by decide) rfl) d_B_mean_99
          · refine lv_aload_n hx hb d_B_mean_68 rfl (lv_at hl 1 rfl) ?_
            refine sg_get (D := (dC, dI)) (ci := 9) (v := .ref q_p0_sums) (C := "JobNetsModel") (T := T_9) (N := 41) hx hb hts hin_9 hown hK hw 2 rfl rfl 26 (by decide) (hts _ wd_642) rfl rfl d_B_mean_69 ?_
            refine lv_iload_n hx hb d_B_mean_72 rfl (lv_at hl 2 rfl) ?_
            refine sg_lald hx hb hK hw 0 1 rfl rfl d_B_mean_73 hm (fun hm => ?_)
            refine lv_aload_n hx hb d_B_mean_74 rfl (lv_at hl 1 rfl) ?_
            refine sg_get (D := (dC, dI)) (ci := 9) (v := .ref q_p0_kept) (C := "JobNetsModel") (T := T_9) (N := 41) hx hb hts hin_9 hown hK hw 2 rfl rfl 27 (by decide) (hts _ wd_643) rfl rfl d_B_mean_75 ?_
            refine lv_iload_n hx hb d_B_mean_78 rfl (lv_at hl 2 rfl) ?_
            refine sg_iald hx hb hK hw 1 0 rfl rfl d_B_mean_79 hm (fun hm => ?_)
            refine lv_i2l hx hb d_B_mean_80 rfl ?_
            obtain ⟨hne, hm⟩ := it_n hm
            refine lv_ldiv hx hb d_B_mean_81 hne ?_
            refine lv_goto (tgt := 99) hx hb d_B_mean_82 (by decide) ?_
            obtain rfl := Option.some.inj hm
            exact sg_lret hx hb hr hlocks hAe hQ hK (hw.sub [2, 0, 1] (by decide) rfl) d_B_mean_99
        · refine lv_lconst (v := 0) hx hb d_B_mean_60 (by decide) ?_
          refine lv_goto (tgt := 99) hx hb d_B_mean_61 (by decide) ?_
          obtain rfl := Option.some.inj hm
          exact sg_lret hx hb hr hlocks hAe hQ hK (hw.sub [2, 0, 1] (by decide) rfl) d_B_mean_99
      · refine lv_ldc2 hx hb (v := -1) hown (hts _ wd_812) d_B_mean_49 ?_
        obtain rfl := Option.some.inj hm
        exact sg_lret hx hb hr hlocks hAe hQ hK (hw.sub [2, 0, 1] (by decide) rfl) d_B_mean_52
    obtain ⟨k41, hk41, hm⟩ := zl_x hm
    have J41 : k41 = some o → ∀ (H : Heap) (locs : List Loc) (ls : Array Slot), wk (dC, dI) vwCl A s.heap [[(q_p0_sums, .inl (cL, 27, .inr (.inl f_p0_sums)))], [(q_p0_kept, .inl (cI, 27, .inl f_p0_kept))], [(q_p0, .inr (9, [.int v_p0_code, .ref q_p0_text, .int v_p0_length, .int v_p0_jobs, .int v_p0_newJobs, .ref q_p0_names, .ref q_p0_calendars, .ref q_p0_priorities, .ref q_p0_starts, .ref q_p0_estimates, .ref q_p0_many, .ref q_p0_newNames, .ref q_p0_numbers, .ref q_p0_newMany, .ref q_p0_needs, .ref q_p0_conditions, .ref q_p0_newNeeds, .ref q_p0_newConditions, .ref q_p0_needPlaces, .ref q_p0_rules, .ref q_p0_of, .int v_p0_made, .ref q_p0_holidays, .int v_p0_days, .ref q_p0_states, .ref q_p0_ran, .ref q_p0_sums, .ref q_p0_kept, .long v_p0_now, .ref q_p0_startedJob, .ref q_p0_startedAt, .int v_p0_started, .ref q_p0_ring, .ref q_p0_came, .ref q_p0_level, .int v_p0_ringSize, .ref q_p0_again, .ref q_p0_way, .ref q_p0_before, .ref q_p0_path, .int v_p0_place]))]] H locs → lv_has ls 4 [(3, .int x2), (0, .ref q_p0), (1, .int a1_x), (2, .int a2_x)] → W p l e rm_B_mean s m args below meth c H locs 0 0 Q (F0 m 41 ls [.ref q_p0]) := by
      intro hm H locs ls hw hl
      subst hk41
      refine lv_iconst (v := 0) hx hb d_B_mean_41 (by decide) ?_
      exact J42 (0 : Int32) hm _ _ _ hw hl
    refine bq_t (lv_if_eq (tgt := 41) hx hb d_B_mean_25 (by decide)) hm (fun hm => ?_) (fun hm => ?_)
    · exact J41  hm _ _ _ hw hl
    · refine lv_aload_n hx hb d_B_mean_28 rfl (lv_at hl 1 rfl) ?_
      refine sg_get (D := (dC, dI)) (ci := 9) (v := .ref q_p0_kept) (C := "JobNetsModel") (T := T_9) (N := 41) hx hb hts hin_9 hown hK hw 2 rfl rfl 27 (by decide) (hts _ wd_643) rfl rfl d_B_mean_29 ?_
      refine lv_iload_n hx hb d_B_mean_32 rfl (lv_at hl 2 rfl) ?_
      refine sg_iald hx hb hK hw 1 0 rfl rfl d_B_mean_33 hm (fun hm => ?_)
      refine bq_n (lv_if_ne (tgt := 41) hx hb d_B_mean_34 (by decide)) hm (fun hm => ?_) (fun hm => ?_)
      · exact J41  hm _ _ _ hw hl
      · refine lv_iconst (v := 1) hx hb d_B_mean_37 (by decide) ?_
        refine lv_goto (tgt := 42) hx hb d_B_mean_38 (by decide) ?_
        exact J42 (1 : Int32) hm _ _ _ hw hl
  obtain ⟨k21, hk21, hm⟩ := zl_x hm
  have J21 : k21 = some o → ∀ (H : Heap) (locs : List Loc) (ls : Array Slot), wk (dC, dI) vwCl A s.heap [[(q_p0_sums, .inl (cL, 27, .inr (.inl f_p0_sums)))], [(q_p0_kept, .inl (cI, 27, .inl f_p0_kept))], [(q_p0, .inr (9, [.int v_p0_code, .ref q_p0_text, .int v_p0_length, .int v_p0_jobs, .int v_p0_newJobs, .ref q_p0_names, .ref q_p0_calendars, .ref q_p0_priorities, .ref q_p0_starts, .ref q_p0_estimates, .ref q_p0_many, .ref q_p0_newNames, .ref q_p0_numbers, .ref q_p0_newMany, .ref q_p0_needs, .ref q_p0_conditions, .ref q_p0_newNeeds, .ref q_p0_newConditions, .ref q_p0_needPlaces, .ref q_p0_rules, .ref q_p0_of, .int v_p0_made, .ref q_p0_holidays, .int v_p0_days, .ref q_p0_states, .ref q_p0_ran, .ref q_p0_sums, .ref q_p0_kept, .long v_p0_now, .ref q_p0_startedJob, .ref q_p0_startedAt, .int v_p0_started, .ref q_p0_ring, .ref q_p0_came, .ref q_p0_level, .int v_p0_ringSize, .ref q_p0_again, .ref q_p0_way, .ref q_p0_before, .ref q_p0_path, .int v_p0_place]))]] H locs → lv_has ls 4 [(0, .ref q_p0), (1, .int a1_x), (2, .int a2_x)] → W p l e rm_B_mean s m args below meth c H locs 0 0 Q (F0 m 21 ls []) := by
    intro hm H locs ls hw hl
    subst hk21
    refine lv_iconst (v := 0) hx hb d_B_mean_21 (by decide) ?_
    exact J22 (0 : Int32) hm _ _ _ hw hl
  refine bq_t (lv_if_eq (tgt := 21) hx hb d_B_mean_5 (by decide)) hm (fun hm => ?_) (fun hm => ?_)
  · exact J21  hm _ _ _ hw hl
  · refine lv_iload_n hx hb d_B_mean_8 rfl (lv_at hl 2 rfl) ?_
    refine bq_t (lv_if_lt (tgt := 21) hx hb d_B_mean_9 (by decide)) hm (fun hm => ?_) (fun hm => ?_)
    · exact J21  hm _ _ _ hw hl
    · refine lv_iload_n hx hb d_B_mean_12 rfl (lv_at hl 2 rfl) ?_
      refine lv_iconst (v := 1) hx hb d_B_mean_13 (by decide) ?_
      refine bq_t (lv_icmp_gt (tgt := 21) hx hb d_B_mean_14 (by decide)) hm (fun hm => ?_) (fun hm => ?_)
      · exact J21  hm _ _ _ hw hl
      · refine lv_iconst (v := 1) hx hb d_B_mean_17 (by decide) ?_
        refine lv_goto (tgt := 22) hx hb d_B_mean_18 (by decide) ?_
        exact J22 (1 : Int32) hm _ _ _ hw hl
