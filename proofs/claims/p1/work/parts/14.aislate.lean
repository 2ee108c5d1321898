theorem d_A_isLate_0 : decode prog_1_method_20_code 0 = .ok (.aload_n 0, 1) := by decide +kernel
theorem d_A_isLate_1 : decode prog_1_method_20_code 1 = .ok (.getfield 26, 3) := by decide +kernel
theorem d_A_isLate_4 : decode prog_1_method_20_code 4 = .ok (.getfield 150, 3) := by decide +kernel
theorem d_A_isLate_7 : decode prog_1_method_20_code 7 = .ok (.iload_n 1, 1) := by decide +kernel
theorem d_A_isLate_8 : decode prog_1_method_20_code 8 = .ok (.iaload, 1) := by decide +kernel
theorem d_A_isLate_9 : decode prog_1_method_20_code 9 = .ok (.istore 4, 2) := by decide +kernel
theorem d_A_isLate_11 : decode prog_1_method_20_code 11 = .ok (.iload 4, 2) := by decide +kernel
theorem d_A_isLate_13 : decode prog_1_method_20_code 13 = .ok (.iconst 2, 1) := by decide +kernel
theorem d_A_isLate_14 : decode prog_1_method_20_code 14 = .ok (.if_icmp .eq 11, 3) := by decide +kernel
theorem d_A_isLate_17 : decode prog_1_method_20_code 17 = .ok (.iload 4, 2) := by decide +kernel
theorem d_A_isLate_19 : decode prog_1_method_20_code 19 = .ok (.iconst 1, 1) := by decide +kernel
theorem d_A_isLate_20 : decode prog_1_method_20_code 20 = .ok (.if_icmp .eq 5, 3) := by decide +kernel
theorem d_A_isLate_23 : decode prog_1_method_20_code 23 = .ok (.iconst 0, 1) := by decide +kernel
theorem d_A_isLate_24 : decode prog_1_method_20_code 24 = .ok (.ireturn, 1) := by decide +kernel
theorem d_A_isLate_25 : decode prog_1_method_20_code 25 = .ok (.iload 4, 2) := by decide +kernel
theorem d_A_isLate_27 : decode prog_1_method_20_code 27 = .ok (.iconst 2, 1) := by decide +kernel
theorem d_A_isLate_28 : decode prog_1_method_20_code 28 = .ok (.if_icmp .ne 16, 3) := by decide +kernel
theorem d_A_isLate_31 : decode prog_1_method_20_code 31 = .ok (.aload_n 0, 1) := by decide +kernel
theorem d_A_isLate_32 : decode prog_1_method_20_code 32 = .ok (.getfield 26, 3) := by decide +kernel
theorem d_A_isLate_35 : decode prog_1_method_20_code 35 = .ok (.getfield 153, 3) := by decide +kernel
theorem d_A_isLate_38 : decode prog_1_method_20_code 38 = .ok (.iload_n 1, 1) := by decide +kernel
theorem d_A_isLate_39 : decode prog_1_method_20_code 39 = .ok (.iaload, 1) := by decide +kernel
theorem d_A_isLate_40 : decode prog_1_method_20_code 40 = .ok (.i2l, 1) := by decide +kernel
theorem d_A_isLate_41 : decode prog_1_method_20_code 41 = .ok (.goto 15, 3) := by decide +kernel
theorem d_A_isLate_44 : decode prog_1_method_20_code 44 = .ok (.aload_n 0, 1) := by decide +kernel
theorem d_A_isLate_45 : decode prog_1_method_20_code 45 = .ok (.getfield 61, 3) := by decide +kernel
theorem d_A_isLate_48 : decode prog_1_method_20_code 48 = .ok (.getfield 218, 3) := by decide +kernel
theorem d_A_isLate_51 : decode prog_1_method_20_code 51 = .ok (.iload_n 1, 1) := by decide +kernel
theorem d_A_isLate_52 : decode prog_1_method_20_code 52 = .ok (.aaload, 1) := by decide +kernel
theorem d_A_isLate_53 : decode prog_1_method_20_code 53 = .ok (.iconst 2, 1) := by decide +kernel
theorem d_A_isLate_54 : decode prog_1_method_20_code 54 = .ok (.iaload, 1) := by decide +kernel
theorem d_A_isLate_55 : decode prog_1_method_20_code 55 = .ok (.i2l, 1) := by decide +kernel
theorem d_A_isLate_56 : decode prog_1_method_20_code 56 = .ok (.lstore 5, 2) := by decide +kernel
theorem d_A_isLate_58 : decode prog_1_method_20_code 58 = .ok (.lload_n 2, 1) := by decide +kernel
theorem d_A_isLate_59 : decode prog_1_method_20_code 59 = .ok (.lload 5, 2) := by decide +kernel
theorem d_A_isLate_61 : decode prog_1_method_20_code 61 = .ok (.aload_n 0, 1) := by decide +kernel
theorem d_A_isLate_62 : decode prog_1_method_20_code 62 = .ok (.getfield 33, 3) := by decide +kernel
theorem d_A_isLate_65 : decode prog_1_method_20_code 65 = .ok (.iload_n 1, 1) := by decide +kernel
theorem d_A_isLate_66 : decode prog_1_method_20_code 66 = .ok (.aload_n 0, 1) := by decide +kernel
theorem d_A_isLate_67 : decode prog_1_method_20_code 67 = .ok (.getfield 61, 3) := by decide +kernel
theorem d_A_isLate_70 : decode prog_1_method_20_code 70 = .ok (.getfield 218, 3) := by decide +kernel
theorem d_A_isLate_73 : decode prog_1_method_20_code 73 = .ok (.iload_n 1, 1) := by decide +kernel
theorem d_A_isLate_74 : decode prog_1_method_20_code 74 = .ok (.aaload, 1) := by decide +kernel
theorem d_A_isLate_75 : decode prog_1_method_20_code 75 = .ok (.iconst 3, 1) := by decide +kernel
theorem d_A_isLate_76 : decode prog_1_method_20_code 76 = .ok (.iaload, 1) := by decide +kernel
theorem d_A_isLate_77 : decode prog_1_method_20_code 77 = .ok (.invokevirtual 222, 3) := by decide +kernel
theorem d_A_isLate_80 : decode prog_1_method_20_code 80 = .ok (.ladd, 1) := by decide +kernel
theorem d_A_isLate_81 : decode prog_1_method_20_code 81 = .ok (.lcmp, 1) := by decide +kernel
theorem d_A_isLate_82 : decode prog_1_method_20_code 82 = .ok (.ifCond .le 7, 3) := by decide +kernel
theorem d_A_isLate_85 : decode prog_1_method_20_code 85 = .ok (.iconst 1, 1) := by decide +kernel
theorem d_A_isLate_86 : decode prog_1_method_20_code 86 = .ok (.goto 4, 3) := by decide +kernel
theorem d_A_isLate_89 : decode prog_1_method_20_code 89 = .ok (.iconst 0, 1) := by decide +kernel
theorem d_A_isLate_90 : decode prog_1_method_20_code 90 = .ok (.ireturn, 1) := by decide +kernel
def md_A_isLate (N : Nat) (f_p0_current_states : Nat → Int32) (f_p0_current_startTimes : Nat → Int32) (f_p0_kept_sums : Nat → Int64) (f_p0_kept_counts : Nat → Int32) (g_p0_net_numbers : Nat → Nat → Int32) (a1_x : Int32) (a2_x : Int64) : Option (Int32) :=
  (if sg_in a1_x 27 = true then (zl (zl (fun (x1 : Int64) => (if sg_in a1_x 27 = true then (if sg_in (3 : Int32) 4 = true then (zc (md_Kep_usualTime N f_p0_kept_sums f_p0_kept_counts a1_x (g_p0_net_numbers a1_x.toNatClampNeg (3 : Int32).toNatClampNeg)) (fun o3 => (if (lg_cmp a2_x (x1 + o3)) ≤ 0 then (some (0 : Int32)) else (some (1 : Int32))))) else none) else none)) (fun k56 => (if (f_p0_current_states a1_x.toNatClampNeg) = (2 : Int32) then (if sg_in a1_x 27 = true then (k56 ((f_p0_current_startTimes a1_x.toNatClampNeg).toInt64)) else none) else (if sg_in a1_x 27 = true then (if sg_in (2 : Int32) 4 = true then (k56 ((g_p0_net_numbers a1_x.toNatClampNeg (2 : Int32).toNatClampNeg).toInt64)) else none) else none)))) (fun k25 => (if (f_p0_current_states a1_x.toNatClampNeg) = (2 : Int32) then (k25) else (if (f_p0_current_states a1_x.toNatClampNeg) = (1 : Int32) then (k25) else (some (0 : Int32)))))) else none)
abbrev sc_A_isLate (cI cL cM cZ : ClassId) (q_p0 q_p0_calendars q_p0_reader q_p0_current q_p0_kept q_p0_latestRing q_p0_ringFinder q_p0_longest q_p0_net q_p0_spare q_p0_current_states q_p0_current_startTimes q_p0_current_loggedJobs q_p0_current_loggedTimes q_p0_kept_sums q_p0_kept_counts q_p0_net_numbers q_p0_net_needCounts q_p0_net_needed q_p0_net_conditions q_p0_net_allNeeded : Nat) (d_p0_net_numbers : Nat → Nat) (v_p0_current_starts : Int32) (v_p0_current_time : Int32) (f_p0_current_states : Nat → Int32) (f_p0_current_startTimes : Nat → Int32) (f_p0_kept_sums : Nat → Int64) (f_p0_kept_counts : Nat → Int32) (v_p0_net_jobs : Int32) (g_p0_net_numbers : Nat → Nat → Int32) : List va_W := [[(q_p0, .inr (0, [.ref q_p0_calendars, .ref q_p0_reader, .ref q_p0_current, .ref q_p0_kept, .ref q_p0_latestRing, .ref q_p0_ringFinder, .ref q_p0_longest, .ref q_p0_net, .ref q_p0_spare]))], [(q_p0_current, .inr (5, [.ref q_p0_current_states, .ref q_p0_current_startTimes, .ref q_p0_current_loggedJobs, .ref q_p0_current_loggedTimes, .int v_p0_current_starts, .int v_p0_current_time]))], [(q_p0_current_states, .inl (cI, 27, .inl f_p0_current_states))], [(q_p0_current_startTimes, .inl (cI, 27, .inl f_p0_current_startTimes))], [(q_p0_kept, .inr (2, [.ref q_p0_kept_sums, .ref q_p0_kept_counts]))], [(q_p0_kept_sums, .inl (cL, 27, .inr (.inl f_p0_kept_sums)))], [(q_p0_kept_counts, .inl (cI, 27, .inl f_p0_kept_counts))], [(q_p0_net, .inr (4, [.ref q_p0_net_numbers, .ref q_p0_net_needCounts, .ref q_p0_net_needed, .ref q_p0_net_conditions, .ref q_p0_net_allNeeded, .int v_p0_net_jobs]))], [(q_p0_net_numbers, .inl (cM, gro 27 d_p0_net_numbers))], gl cI d_p0_net_numbers 27 4 g_p0_net_numbers]
abbrev rm_A_isLate : Room := { frames := 1, cells := 0, slots := 0, locals := 22 }
set_option maxHeartbeats 4000000 in
set_option maxRecDepth 100000 in
theorem ct_A_isLate (l : Launch) (dC : Nat → ClassId) (dI : Nat → Nat → Nat) (cI cL cM cZ : ClassId) (q_p0 q_p0_calendars q_p0_reader q_p0_current q_p0_kept q_p0_latestRing q_p0_ringFinder q_p0_longest q_p0_net q_p0_spare q_p0_current_states q_p0_current_startTimes q_p0_current_loggedJobs q_p0_current_loggedTimes q_p0_kept_sums q_p0_kept_counts q_p0_net_numbers q_p0_net_needCounts q_p0_net_needed q_p0_net_conditions q_p0_net_allNeeded : Nat) (d_p0_net_numbers : Nat → Nat) (v_p0_current_starts : Int32) (v_p0_current_time : Int32) (f_p0_current_states : Nat → Int32) (f_p0_current_startTimes : Nat → Int32) (f_p0_kept_sums : Nat → Int64) (f_p0_kept_counts : Nat → Int32) (v_p0_net_jobs : Int32) (g_p0_net_numbers : Nat → Nat → Int32) (a1_x : Int32) (a2_x : Int64) (N : Nat) (o : Int32) (hm : md_A_isLate N f_p0_current_states f_p0_current_startTimes f_p0_kept_sums f_p0_kept_counts g_p0_net_numbers a1_x a2_x = some o) : ∀ sz : Nat, Met l y_A_isLate ws_A_isLate rm_A_isLate (cP (dC, dI) vwCl [(cI, .int), (cL, .long), (cM, .array .int), (cZ, .boolean)] [.ref q_p0, .int a1_x, .long a2_x] sz (sc_A_isLate cI cL cM cZ q_p0 q_p0_calendars q_p0_reader q_p0_current q_p0_kept q_p0_latestRing q_p0_ringFinder q_p0_longest q_p0_net q_p0_spare q_p0_current_states q_p0_current_startTimes q_p0_current_loggedJobs q_p0_current_loggedTimes q_p0_kept_sums q_p0_kept_counts q_p0_net_numbers q_p0_net_needCounts q_p0_net_needed q_p0_net_conditions q_p0_net_allNeeded d_p0_net_numbers v_p0_current_starts v_p0_current_time f_p0_current_states f_p0_current_startTimes f_p0_kept_sums f_p0_kept_counts v_p0_net_jobs g_p0_net_numbers)) (cQi (dC, dI) vwCl [(cI, .int), (cL, .long), (cM, .array .int), (cZ, .boolean)] sz (sc_A_isLate cI cL cM cZ q_p0 q_p0_calendars q_p0_reader q_p0_current q_p0_kept q_p0_latestRing q_p0_ringFinder q_p0_longest q_p0_net q_p0_spare q_p0_current_states q_p0_current_startTimes q_p0_current_loggedJobs q_p0_current_loggedTimes q_p0_kept_sums q_p0_kept_counts q_p0_net_numbers q_p0_net_needCounts q_p0_net_needed q_p0_net_conditions q_p0_net_allNeeded d_p0_net_numbers v_p0_current_starts v_p0_current_time f_p0_current_states f_p0_current_startTimes f_p0_kept_sums f_p0_kept_counts v_p0_net_jobs g_p0_net_numbers) o (sc_A_isLate cI cL cM cZ q_p0 q_p0_calendars q_p0_reader q_p0_current q_p0_kept q_p0_latestRing q_p0_ringFinder q_p0_longest q_p0_net q_p0_spare q_p0_current_states q_p0_current_startTimes q_p0_current_loggedJobs q_p0_current_loggedTimes q_p0_kept_sums q_p0_kept_counts q_p0_net_numbers q_p0_net_needCounts q_p0_net_needed q_p0_net_conditions q_p0_net_allNeeded d_p0_net_numbers v_p0_current_starts v_p0_current_time f_p0_current_states f_p0_current_startTimes f_p0_kept_sums f_p0_kept_counts v_p0_net_jobs g_p0_net_numbers)) 0 0 (va_A ((sc_A_isLate cI cL cM cZ q_p0 q_p0_calendars q_p0_reader q_p0_current q_p0_kept q_p0_latestRing q_p0_ringFinder q_p0_longest q_p0_net q_p0_spare q_p0_current_states q_p0_current_startTimes q_p0_current_loggedJobs q_p0_current_loggedTimes q_p0_kept_sums q_p0_kept_counts q_p0_net_numbers q_p0_net_needCounts q_p0_net_needed q_p0_net_conditions q_p0_net_allNeeded d_p0_net_numbers v_p0_current_starts v_p0_current_time f_p0_current_states f_p0_current_startTimes f_p0_kept_sums f_p0_kept_counts v_p0_net_jobs g_p0_net_numbers)).flatten sz) := by
  refine sg_met (fun sz => cQi (dC, dI) vwCl [(cI, .int), (cL, .long), (cM, .array .int), (cZ, .boolean)] sz (sc_A_isLate cI cL cM cZ q_p0 q_p0_calendars q_p0_reader q_p0_current q_p0_kept q_p0_latestRing q_p0_ringFinder q_p0_longest q_p0_net q_p0_spare q_p0_current_states q_p0_current_startTimes q_p0_current_loggedJobs q_p0_current_loggedTimes q_p0_kept_sums q_p0_kept_counts q_p0_net_numbers q_p0_net_needCounts q_p0_net_needed q_p0_net_conditions q_p0_net_allNeeded d_p0_net_numbers v_p0_current_starts v_p0_current_time f_p0_current_states f_p0_current_startTimes f_p0_kept_sums f_p0_kept_counts v_p0_net_jobs g_p0_net_numbers) o (sc_A_isLate cI cL cM cZ q_p0 q_p0_calendars q_p0_reader q_p0_current q_p0_kept q_p0_latestRing q_p0_ringFinder q_p0_longest q_p0_net q_p0_spare q_p0_current_states q_p0_current_startTimes q_p0_current_loggedJobs q_p0_current_loggedTimes q_p0_kept_sums q_p0_kept_counts q_p0_net_numbers q_p0_net_needCounts q_p0_net_needed q_p0_net_conditions q_p0_net_allNeeded d_p0_net_numbers v_p0_current_starts v_p0_current_time f_p0_current_states f_p0_current_startTimes f_p0_kept_sums f_p0_kept_counts v_p0_net_jobs g_p0_net_numbers)) (by decide) (Nat.le_of_ble_eq_true rfl) ?_
  intro p e s m args below meth c A Q ls hx hb hr hts hown hlocks hml hname hK hNW hA hAe hQ hw hl
  have hl : lv_has ls 7 [(0, .ref q_p0), (1, .int a1_x), (2, .long a2_x)] := hl
  have hw : wk (dC, dI) vwCl A s.heap [[(q_p0, .inr (0, [.ref q_p0_calendars, .ref q_p0_reader, .ref q_p0_current, .ref q_p0_kept, .ref q_p0_latestRing, .ref q_p0_ringFinder, .ref q_p0_longest, .ref q_p0_net, .ref q_p0_spare]))], [(q_p0_current, .inr (5, [.ref q_p0_current_states, .ref q_p0_current_startTimes, .ref q_p0_current_loggedJobs, .ref q_p0_current_loggedTimes, .int v_p0_current_starts, .int v_p0_current_time]))], [(q_p0_current_states, .inl (cI, 27, .inl f_p0_current_states))], [(q_p0_current_startTimes, .inl (cI, 27, .inl f_p0_current_startTimes))], [(q_p0_kept, .inr (2, [.ref q_p0_kept_sums, .ref q_p0_kept_counts]))], [(q_p0_kept_sums, .inl (cL, 27, .inr (.inl f_p0_kept_sums)))], [(q_p0_kept_counts, .inl (cI, 27, .inl f_p0_kept_counts))], [(q_p0_net, .inr (4, [.ref q_p0_net_numbers, .ref q_p0_net_needCounts, .ref q_p0_net_needed, .ref q_p0_net_conditions, .ref q_p0_net_allNeeded, .int v_p0_net_jobs]))], [(q_p0_net_numbers, .inl (cM, gro 27 d_p0_net_numbers))], gl cI d_p0_net_numbers 27 4 g_p0_net_numbers] s.heap [] := hw
  unfold md_A_isLate at hm
  refine lv_aload_n hx hb d_A_isLate_0 rfl (lv_at hl 0 rfl) ?_
  refine sg_get (D := (dC, dI)) (ci := 0) (v := .ref q_p0_current) (C := "JobNets") (T := T_0) (N := 9) hx hb hts hin_0 hown hK hw 0 rfl rfl 2 (by decide) (hts _ wd_224) rfl rfl d_A_isLate_1 ?_
  refine sg_getN (D := (dC, dI)) (ci := 5) (v := .ref q_p0_current_states) (C := "JobNets$Plan") (T := T_5) (N := 6) hx hb hts hin_5 hown hK hw 1 rfl rfl 0 (by decide) (nF_2 hNW) rfl rfl d_A_isLate_4 ?_
  refine lv_iload_n hx hb d_A_isLate_7 rfl (lv_at hl 1 rfl) ?_
  refine sg_iald hx hb hK hw 2 0 rfl rfl d_A_isLate_8 hm (fun hm => ?_)
  refine lv_istore (lv' := [(4, .int (f_p0_current_states a1_x.toNatClampNeg)), (0, .ref q_p0), (1, .int a1_x), (2, .long a2_x)]) hx hb d_A_isLate_9 hl (by decide) rfl (fun ls hl => ?_)
  refine lv_iload hx hb d_A_isLate_11 (lv_at hl 0 rfl) ?_
  refine lv_iconst (v := 2) hx hb d_A_isLate_13 (by decide) ?_
  obtain ⟨k25, hk25, hm⟩ := zl_x hm
  have J25 : k25 = some o → ∀ (H : Heap) (locs : List Loc) (ls : Array Slot), wk (dC, dI) vwCl A s.heap [[(q_p0, .inr (0, [.ref q_p0_calendars, .ref q_p0_reader, .ref q_p0_current, .ref q_p0_kept, .ref q_p0_latestRing, .ref q_p0_ringFinder, .ref q_p0_longest, .ref q_p0_net, .ref q_p0_spare]))], [(q_p0_current, .inr (5, [.ref q_p0_current_states, .ref q_p0_current_startTimes, .ref q_p0_current_loggedJobs, .ref q_p0_current_loggedTimes, .int v_p0_current_starts, .int v_p0_current_time]))], [(q_p0_current_states, .inl (cI, 27, .inl f_p0_current_states))], [(q_p0_current_startTimes, .inl (cI, 27, .inl f_p0_current_startTimes))], [(q_p0_kept, .inr (2, [.ref q_p0_kept_sums, .ref q_p0_kept_counts]))], [(q_p0_kept_sums, .inl (cL, 27, .inr (.inl f_p0_kept_sums)))], [(q_p0_kept_counts, .inl (cI, 27, .inl f_p0_kept_counts))], [(q_p0_net, .inr (4, [.ref q_p0_net_numbers, .ref q_p0_net_needCounts, .ref q_p0_net_needed, .ref q_p0_net_conditions, .ref q_p0_net_allNeeded, .int v_p0_net_jobs]))], [(q_p0_net_numbers, .inl (cM, gro 27 d_p0_net_numbers))], gl cI d_p0_net_numbers 27 4 g_p0_net_numbers] H locs → lv_has ls 7 [(4, .int (f_p0_current_states a1_x.toNatClampNeg)), (0, .ref q_p0), (1, .int a1_x), (2, .long a2_x)] → W p l e rm_A_isLate s m args below meth c H locs 0 0 Q (F0 m 25 ls []) := by
    intro hm H locs ls hw hl
    subst hk25
    refine lv_iload hx hb d_A_isLate_25 (lv_at hl 0 rfl) ?_
    refine lv_iconst (v := 2) hx hb d_A_isLate_27 (by decide) ?_
    obtain ⟨k56, hk56, hm⟩ := zl_x hm
    have J56 : ∀ (x1 : Int64) , k56 x1 = some o → ∀ (H : Heap) (locs : List Loc) (ls : Array Slot), wk (dC, dI) vwCl A s.heap [[(q_p0, .inr (0, [.ref q_p0_calendars, .ref q_p0_reader, .ref q_p0_current, .ref q_p0_kept, .ref q_p0_latestRing, .ref q_p0_ringFinder, .ref q_p0_longest, .ref q_p0_net, .ref q_p0_spare]))], [(q_p0_current, .inr (5, [.ref q_p0_current_states, .ref q_p0_current_startTimes, .ref q_p0_current_loggedJobs, .ref q_p0_current_loggedTimes, .int v_p0_current_starts, .int v_p0_current_time]))], [(q_p0_current_states, .inl (cI, 27, .inl f_p0_current_states))], [(q_p0_current_startTimes, .inl (cI, 27, .inl f_p0_current_startTimes))], [(q_p0_kept, .inr (2, [.ref q_p0_kept_sums, .ref q_p0_kept_counts]))], [(q_p0_kept_sums, .inl (cL, 27, .inr (.inl f_p0_kept_sums)))], [(q_p0_kept_counts, .inl (cI, 27, .inl f_p0_kept_counts))], [(q_p0_net, .inr (4, [.ref q_p0_net_numbers, .ref q_p0_net_needCounts, .ref q_p0_net_needed, .ref q_p0_net_conditions, .ref q_p0_net_allNeeded, .int v_p0_net_jobs]))], [(q_p0_net_numbers, .inl (cM, gro 27 d_p0_net_numbers))], gl cI d_p0_net_numbers 27 4 g_p0_net_numbers] H locs → lv_has ls 7 [(0, .ref q_p0), (1, .int a1_x), (2, .long a2_x)] → W p l e rm_A_isLate s m args below meth c H locs 0 0 Q (F0 m 56 ls [.long x1]) := by
      intro x1 hm H locs ls hw hl
      subst hk56
      refine lv_lstore (lv' := [(5, .long x1), (0, .ref q_p0), (1, .int a1_x), (2, .long a2_x)]) hx hb d_A_isLate_56 hl (by decide) rfl (fun ls hl => ?_)
      refine lv_lload_n hx hb d_A_isLate_58 rfl (lv_at hl 3 rfl) ?_
      refine lv_lload hx hb d_A_isLate_59 (lv_at hl 0 rfl) ?_
      refine lv_aload_n hx hb d_A_isLate_61 rfl (lv_at hl 1 rfl) ?_
      refine sg_get (D := (dC, dI)) (ci := 0) (v := .ref q_p0_kept) (C := "JobNets") (T := T_0) (N := 9) hx hb hts hin_0 hown hK hw 0 rfl rfl 3 (by decide) (hts _ wd_225) rfl rfl d_A_isLate_62 ?_
      refine lv_iload_n hx hb d_A_isLate_65 rfl (lv_at hl 2 rfl) ?_
      refine lv_aload_n hx hb d_A_isLate_66 rfl (lv_at hl 1 rfl) ?_
      refine sg_get (D := (dC, dI)) (ci := 0) (v := .ref q_p0_net) (C := "JobNets") (T := T_0) (N := 9) hx hb hts hin_0 hown hK hw 0 rfl rfl 7 (by decide) (hts _ wd_229) rfl rfl d_A_isLate_67 ?_
      refine sg_getN (D := (dC, dI)) (ci := 4) (v := .ref q_p0_net_numbers) (C := "JobNets$Net") (T := T_4) (N := 6) hx hb hts hin_4 hown hK hw 7 rfl rfl 0 (by decide) (nF_15 hNW) rfl rfl d_A_isLate_70 ?_
      refine lv_iload_n hx hb d_A_isLate_73 rfl (lv_at hl 2 rfl) ?_
      obtain ⟨hi2, hm⟩ := it_n hm
      refine sg_aald hx hb hK hw 8 2 rfl rfl hi2 d_A_isLate_74 ?_
      refine lv_iconst (v := 3) hx hb d_A_isLate_75 (by decide) ?_
      refine sg_rald hx hb hK hw 9 0 rfl (sg_lt hi2) rfl d_A_isLate_76 hm (fun hm => ?_)
      obtain ⟨o3, h3, hm⟩ := zc_x hm
      refine sg_cl0 (Sr := [[(q_p0, .inr (0, [.ref q_p0_calendars, .ref q_p0_reader, .ref q_p0_current, .ref q_p0_kept, .ref q_p0_latestRing, .ref q_p0_ringFinder, .ref q_p0_longest, .ref q_p0_net, .ref q_p0_spare]))], [(q_p0_current, .inr (5, [.ref q_p0_current_states, .ref q_p0_current_startTimes, .ref q_p0_current_loggedJobs, .ref q_p0_current_loggedTimes, .int v_p0_current_starts, .int v_p0_current_time]))], [(q_p0_current_states, .inl (cI, 27, .inl f_p0_current_states))], [(q_p0_current_startTimes, .inl (cI, 27, .inl f_p0_current_startTimes))], [(q_p0_net, .inr (4, [.ref q_p0_net_numbers, .ref q_p0_net_needCounts, .ref q_p0_net_needed, .ref q_p0_net_conditions, .ref q_p0_net_allNeeded, .int v_p0_net_jobs]))], [(q_p0_net_numbers, .inl (cM, gro 27 d_p0_net_numbers))], gl cI d_p0_net_numbers 27 4 g_p0_net_numbers]) (va_runV (As := [.int a1_x, .int (g_p0_net_numbers a1_x.toNatClampNeg (3 : Int32).toNatClampNeg)]) (rest := [.long x1, .long a2_x]) ⟨hx, hb, hml, hown, hts⟩ (ct_Kep_usualTime l dC dI cI cL cM cZ q_p0_kept q_p0_kept_sums q_p0_kept_counts f_p0_kept_sums f_p0_kept_counts a1_x (g_p0_net_numbers a1_x.toNatClampNeg (3 : Int32).toNatClampNeg) N o3 h3 _) (cwV 2 hts (gd_V wd_520 wd_521 wd_522 wd_5 wd_523) rfl rfl rfl (by decide +kernel) ⟨Nat.le_of_ble_eq_true rfl, Nat.le_of_ble_eq_true rfl⟩) (sg_preV (ci := 2) (q0 := 4) hK hNW hw [4, 5, 6] rfl rfl rfl rfl) rfl rfl hl.1 rfl (lv_room (Nat.le_of_ble_eq_true rfl)) d_A_isLate_77 ⟨Nat.le_of_ble_eq_true rfl, Nat.le_of_ble_eq_true rfl⟩) hw hA [4, 5, 6] [0, 1, 2, 3, 7, 8, 9] rfl rfl rfl (by decide) (fun H locs hw => ?_)
      have hw : wk (dC, dI) vwCl A s.heap [[(q_p0, .inr (0, [.ref q_p0_calendars, .ref q_p0_reader, .ref q_p0_current, .ref q_p0_kept, .ref q_p0_latestRing, .ref q_p0_ringFinder, .ref q_p0_longest, .ref q_p0_net, .ref q_p0_spare]))], [(q_p0_current, .inr (5, [.ref q_p0_current_states, .ref q_p0_current_startTimes, .ref q_p0_current_loggedJobs, .ref q_p0_current_loggedTimes, .int v_p0_current_starts, .int v_p0_current_time]))], [(q_p0_current_states, .inl (cI, 27, .inl f_p0_current_states))], [(q_p0_current_startTimes, .inl (cI, 27, .inl f_p0_current_startTimes))], [(q_p0_net, .inr (4, [.ref q_p0_net_numbers, .ref q_p0_net_needCounts, .ref q_p0_net_needed, .ref q_p0_net_conditions, .ref q_p0_net_allNeeded, .int v_p0_net_jobs]))], [(q_p0_net_numbers, .inl (cM, gro 27 d_p0_net_numbers))], gl cI d_p0_net_numbers 27 4 g_p0_net_numbers, [(q_p0_kept, .inr (2, [.ref q_p0_kept_sums, .ref q_p0_kept_counts]))], [(q_p0_kept_sums, .inl (cL, 27, .inr (.inl f_p0_kept_sums)))], [(q_p0_kept_counts, .inl (cI, 27, .inl f_p0_kept_counts))]] H locs := hw
      refine lv_ladd hx hb d_A_isLate_80 ?_
      refine W.lcmp hx hb d_A_isLate_81 ?_
      refine bq_t (lv_if_le (tgt := 89) hx hb d_A_isLate_82 (by decide)) hm (fun hm => ?_) (fun hm => ?_)
      · refine lv_iconst (v := 0) hx hb d_A_isLate_89 (by decide) ?_
        exact so_zret (rf := fun z_ => z_) (Sf := fun z_ => sc_A_isLate cI cL cM cZ q_p0 q_p0_calendars q_p0_reader q_p0_current q_p0_kept q_p0_latestRing q_p0_ringFinder q_p0_longest q_p0_net q_p0_spare q_p0_current_states q_p0_current_startTimes q_p0_current_loggedJobs q_p0_current_loggedTimes q_p0_kept_sums q_p0_kept_counts q_p0_net_numbers q_p0_net_needCounts q_p0_net_needed q_p0_net_conditions q_p0_net_allNeeded d_p0_net_numbers v_p0_current_starts v_p0_current_time f_p0_current_states f_p0_current_startTimes f_p0_kept_sums f_p0_kept_counts v_p0_net_jobs g_p0_net_numbers) hm hx hb hr rfl hlocks hAe hQ hK (hw.sub [0, 1, 2, 3, 7, 8, 9, 4, 5, 6] (by decide) rfl) rfl d_A_isLate_90
      · refine lv_iconst (v := 1) hx hb d_A_isLate_85 (by decide) ?_
        refine lv_goto (tgt := 90) hx hb d_A_isLate_86 (by decide) ?_
        exact so_zret (rf := fun z_ => z_) (Sf := fun z_ => sc_A_isLate cI cL cM cZ q_p0 q_p0_calendars q_p0_reader q_p0_current q_p0_kept q_p0_latestRing q_p0_ringFinder q_p0_longest q_p0_net q_p0_spare q_p0_current_states q_p0_current_startTimes q_p0_current_loggedJobs q_p0_current_loggedTimes q_p0_kept_sums q_p0_kept_counts q_p0_net_numbers q_p0_net_needCounts q_p0_net_needed q_p0_net_conditions q_p0_net_allNeeded d_p0_net_numbers v_p0_current_starts v_p0_current_time f_p0_current_states f_p0_current_startTimes f_p0_kept_sums f_p0_kept_counts v_p0_net_jobs g_p0_net_numbers) hm hx hb hr rfl hlocks hAe hQ hK (hw.sub [0, 1, 2, 3, 7, 8, 9, 4, 5, 6] (by decide) rfl) rfl d_A_isLate_90
    refine bq_n (lv_icmp_ne (tgt := 44) hx hb d_A_isLate_28 (by decide)) hm (fun hm => ?_) (fun hm => ?_)
    · refine lv_aload_n hx hb d_A_isLate_44 rfl (lv_at hl 1 rfl) ?_
      refine sg_get (D := (dC, dI)) (ci := 0) (v := .ref q_p0_net) (C := "JobNets") (T := T_0) (N := 9) hx hb hts hin_0 hown hK hw 0 rfl rfl 7 (by decide) (hts _ wd_229) rfl rfl d_A_isLate_45 ?_
      refine sg_getN (D := (dC, dI)) (ci := 4) (v := .ref q_p0_net_numbers) (C := "JobNets$Net") (T := T_4) (N := 6) hx hb hts hin_4 hown hK hw 7 rfl rfl 0 (by decide) (nF_15 hNW) rfl rfl d_A_isLate_48 ?_
      refine lv_iload_n hx hb d_A_isLate_51 rfl (lv_at hl 2 rfl) ?_
      obtain ⟨hi4, hm⟩ := it_n hm
      refine sg_aald hx hb hK hw 8 2 rfl rfl hi4 d_A_isLate_52 ?_
      refine lv_iconst (v := 2) hx hb d_A_isLate_53 (by decide) ?_
      refine sg_rald hx hb hK hw 9 0 rfl (sg_lt hi4) rfl d_A_isLate_54 hm (fun hm => ?_)
      refine lv_i2l hx hb d_A_isLate_55 rfl ?_
      exact J56 ((g_p0_net_numbers a1_x.toNatClampNeg (2 : Int32).toNatClampNeg).toInt64) hm _ _ _ hw (lv_sub hl [1, 2, 3] rfl)
    · refine lv_aload_n hx hb d_A_isLate_31 rfl (lv_at hl 1 rfl) ?_
      refine sg_get (D := (dC, dI)) (ci := 0) (v := .ref q_p0_current) (C := "JobNets") (T := T_0) (N := 9) hx hb hts hin_0 hown hK hw 0 rfl rfl 2 (by decide) (hts _ wd_224) rfl rfl d_A_isLate_32 ?_
      refine sg_getN (D := (dC, dI)) (ci := 5) (v := .ref q_p0_current_startTimes) (C := "JobNets$Plan") (T := T_5) (N := 6) hx hb hts hin_5 hown hK hw 1 rfl rfl 1 (by decide) (nF_3 hNW) rfl rfl d_A_isLate_35 ?_
      refine lv_iload_n hx hb d_A_isLate_38 rfl (lv_at hl 2 rfl) ?_
      refine sg_iald hx hb hK hw 3 0 rfl rfl d_A_isLate_39 hm (fun hm => ?_)
      refine lv_i2l hx hb d_A_isLate_40 rfl ?_
      refine lv_goto (tgt := 56) hx hb d_A_isLate_41 (by decide) ?_
      exact J56 ((f_p0_current_startTimes a1_x.toNatClampNeg).toInt64) hm _ _ _ hw (lv_sub hl [1, 2, 3] rfl)
  refine bq_t (lv_icmp_eq (tgt := 25) hx hb d_A_isLate_14 (by decide)) hm (fun hm => ?_) (fun hm => ?_)
  · exact J25  hm _ _ _ hw hl
  · refine lv_iload hx hb d_A_isLate_17 (lv_at hl 0 rfl) ?_
    refine lv_iconst (v := 1) hx hb d_A_isLate_19 (by decide) ?_
    refine bq_t (lv_icmp_eq (tgt := 25) hx hb d_A_isLate_20 (by decide)) hm (fun hm => ?_) (fun hm => ?_)
    · exact J25  hm _ _ _ hw hl
    · refine lv_iconst (v := 0) hx hb d_A_isLate_23 (by decide) ?_
      exact so_zret (rf := fun z_ => z_) (Sf := fun z_ => sc_A_isLate cI cL cM cZ q_p0 q_p0_calendars q_p0_reader q_p0_current q_p0_kept q_p0_latestRing q_p0_ringFinder q_p0_longest q_p0_net q_p0_spare q_p0_current_states q_p0_current_startTimes q_p0_current_loggedJobs q_p0_current_loggedTimes q_p0_kept_sums q_p0_kept_counts q_p0_net_numbers q_p0_net_needCounts q_p0_net_needed q_p0_net_conditions q_p0_net_allNeeded d_p0_net_numbers v_p0_current_starts v_p0_current_time f_p0_current_states f_p0_current_startTimes f_p0_kept_sums f_p0_kept_counts v_p0_net_jobs g_p0_net_numbers) hm hx hb hr rfl hlocks hAe hQ hK hw rfl d_A_isLate_24
