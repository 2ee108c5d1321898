-- 98.pure: what holds between two calls, and that every call keeps it
def NN : Nat := 4000
def IA (made hc st : Int32) (lb : Nat → Int32) (spd : Nat → Nat → Int32) : Prop := (1 ≤ made.toInt ∧ made.toInt ≤ 20) ∧ (0 ≤ hc.toInt ∧ hc.toInt ≤ 100) ∧ (0 ≤ st.toInt ∧ st.toInt ≤ 538) ∧ rg lb 27 0 26 ∧ gg spd 27 20 0 26
def IB (k : Nat) (made days sd : Int32) (es : Nat → Int32) : Prop := (0 ≤ made.toInt ∧ made.toInt ≤ 20) ∧ (0 ≤ days.toInt ∧ days.toInt ≤ 100) ∧ 0 ≤ sd.toInt ∧ 6 * sd.toInt ≤ 26 * (k : Int) ∧ rg es 27 0 999999
def IT (lenA lenB : Int32) (tA tB : Nat → Int32) : Prop := ∃ n : Nat, n ≤ 2000 ∧ lenA.toInt = (n : Int) ∧ lenB.toInt = (n : Int) ∧ tr n tA tB
def Inv (k : Nat) (v_p1_calendars_made : Int32) (v_p1_calendars_holidayCount : Int32) (f_p1_calendars_rules : Nat → Int32) (f_p1_calendars_places : Nat → Int32) (f_p1_calendars_holidays : Nat → Int32) (v_p1_reader_pending : Int32) (v_p1_reader_length : Int32) (v_p1_reader_at : Int32) (v_p1_reader_number : Int32) (f_p1_reader_text : Nat → Int32) (f_p1_reader_jobOfLetter : Nat → Int32) (f_p1_reader_owners : Nat → Int32) (f_p1_reader_namePlaces : Nat → Int32) (f_p1_reader_conditions : Nat → Int32) (v_p1_current_starts : Int32) (v_p1_current_time : Int32) (f_p1_current_states : Nat → Int32) (f_p1_current_startTimes : Nat → Int32) (f_p1_current_loggedJobs : Nat → Int32) (f_p1_current_loggedTimes : Nat → Int32) (f_p1_kept_sums : Nat → Int64) (f_p1_kept_counts : Nat → Int32) (v_p1_latestRing_length : Int32) (f_p1_latestRing_row : Nat → Int32) (f_p1_ringFinder_queue : Nat → Int32) (f_p1_ringFinder_before : Nat → Int32) (f_p1_longest_sums : Nat → Int32) (f_p1_longest_before : Nat → Int32) (v_p1_longest_way_length : Int32) (f_p1_longest_way_row : Nat → Int32) (v_p1_net_jobs : Int32) (g_p1_net_numbers : Nat → Nat → Int32) (f_p1_net_needCounts : Nat → Int32) (g_p1_net_needed : Nat → Nat → Int32) (g_p1_net_conditions : Nat → Nat → Int32) (f_p1_net_allNeeded : Nat → Int32) (v_p1_spare_jobs : Int32) (g_p1_spare_numbers : Nat → Nat → Int32) (f_p1_spare_needCounts : Nat → Int32) (g_p1_spare_needed : Nat → Nat → Int32) (g_p1_spare_conditions : Nat → Nat → Int32) (f_p1_spare_allNeeded : Nat → Int32) (v_p2_code : Int32) (v_p2_length : Int32) (v_p2_jobs : Int32) (v_p2_newJobs : Int32) (v_p2_made : Int32) (v_p2_days : Int32) (v_p2_now : Int64) (v_p2_started : Int32) (v_p2_ringSize : Int32) (v_p2_place : Int32) (f_p2_text : Nat → Int32) (f_p2_names : Nat → Int32) (f_p2_calendars : Nat → Int32) (f_p2_priorities : Nat → Int32) (f_p2_starts : Nat → Int32) (f_p2_estimates : Nat → Int32) (f_p2_many : Nat → Int32) (f_p2_newNames : Nat → Int32) (f_p2_numbers : Nat → Int32) (f_p2_newMany : Nat → Int32) (f_p2_needs : Nat → Int32) (f_p2_conditions : Nat → Int32) (f_p2_newNeeds : Nat → Int32) (f_p2_newConditions : Nat → Int32) (f_p2_needPlaces : Nat → Int32) (f_p2_rules : Nat → Int32) (f_p2_of : Nat → Int32) (f_p2_holidays : Nat → Int64) (f_p2_states : Nat → Int32) (f_p2_ran : Nat → Int64) (f_p2_sums : Nat → Int64) (f_p2_kept : Nat → Int32) (f_p2_startedJob : Nat → Int32) (f_p2_startedAt : Nat → Int64) (f_p2_ring : Nat → Int32) (f_p2_came : Nat → Int32) (f_p2_level : Nat → Int32) (f_p2_again : Nat → Int32) (f_p2_way : Nat → Int64) (f_p2_before : Nat → Int32) (f_p2_path : Nat → Int32) (f_p3 : Nat → Int64) : Prop := IA v_p1_calendars_made v_p1_calendars_holidayCount v_p1_current_starts f_p1_longest_before g_p1_spare_needed ∧ IB k v_p2_made v_p2_days v_p2_started f_p2_estimates ∧ IT v_p1_reader_length v_p2_length f_p1_reader_text f_p2_text ∧ NR v_p1_net_jobs f_p1_net_needCounts g_p1_net_needed f_p1_net_allNeeded v_p2_jobs f_p2_many f_p2_needs ∧ RE v_p1_latestRing_length f_p1_latestRing_row v_p2_ringSize f_p2_ring
theorem st_0 (L : Nat) (xs : Nat → Int32) (hL : L ≤ 3072) : St0 NN L xs Inv := by
  intro k v_p1_calendars_made v_p1_calendars_holidayCount f_p1_calendars_rules f_p1_calendars_places f_p1_calendars_holidays v_p1_reader_pending v_p1_reader_length v_p1_reader_at v_p1_reader_number f_p1_reader_text f_p1_reader_jobOfLetter f_p1_reader_owners f_p1_reader_namePlaces f_p1_reader_conditions v_p1_current_starts v_p1_current_time f_p1_current_states f_p1_current_startTimes f_p1_current_loggedJobs f_p1_current_loggedTimes f_p1_kept_sums f_p1_kept_counts v_p1_latestRing_length f_p1_latestRing_row f_p1_ringFinder_queue f_p1_ringFinder_before f_p1_longest_sums f_p1_longest_before v_p1_longest_way_length f_p1_longest_way_row v_p1_net_jobs g_p1_net_numbers f_p1_net_needCounts g_p1_net_needed g_p1_net_conditions f_p1_net_allNeeded v_p1_spare_jobs g_p1_spare_numbers f_p1_spare_needCounts g_p1_spare_needed g_p1_spare_conditions f_p1_spare_allNeeded v_p2_code v_p2_length v_p2_jobs v_p2_newJobs v_p2_made v_p2_days v_p2_now v_p2_started v_p2_ringSize v_p2_place f_p2_text f_p2_names f_p2_calendars f_p2_priorities f_p2_starts f_p2_estimates f_p2_many f_p2_newNames f_p2_numbers f_p2_newMany f_p2_needs f_p2_conditions f_p2_newNeeds f_p2_newConditions f_p2_needPlaces f_p2_rules f_p2_of f_p2_holidays f_p2_states f_p2_ran f_p2_sums f_p2_kept f_p2_startedJob f_p2_startedAt f_p2_ring f_p2_came f_p2_level f_p2_again f_p2_way f_p2_before f_p2_path f_p3 hI hk hx
  clear hx
  have hN : 4000 ≤ NN := Nat.le_refl 4000
  obtain ⟨⟨a1, a2, a3, a4, a5⟩, ⟨b1, b2, b3, b4, b5⟩, hT, hnr, hre⟩ := hI
  have hj : 0 ≤ v_p1_net_jobs.toInt ∧ v_p1_net_jobs.toInt ≤ 26 := ⟨hnr.2.1, hnr.2.2.1⟩
  have hjB : 0 ≤ v_p2_jobs.toInt ∧ v_p2_jobs.toInt ≤ 26 := by rw [← hnr.1]; exact hj
  have hnb := hnr.nb
  have hnc := hnr.2.2.2.1
  have hnd := hnr.2.2.2.2.1
  have hs : 0 ≤ v_p2_started.toInt ∧ v_p2_started.toInt ≤ v_p2_started.toInt := ⟨b3, Int.le_refl _⟩
  have hB : v_p2_started.toInt ≤ 19900 := by omega
  have b4' : 6 * v_p2_started.toInt ≤ 26 * ((k + 6 : Nat) : Int) := by omega
  obtain ⟨n, t1, t2, t3, t4⟩ := hT
  obtain ⟨o1, e1, o2, e2, m, m1, m2, m3, m4⟩ := sg_both (N := NN) (cd := v_p2_code) (a := xs (k + 1)) t2 t3 t1 t4
  exact ⟨o1, e1, o2, e2, ⟨a1, a2, a3, a4, a5⟩, ⟨b1, b2, b3, b4', b5⟩, ⟨m, m1, m2, m3, m4⟩, hnr, hre⟩
theorem st_1 (L : Nat) (xs : Nat → Int32) (hL : L ≤ 3072) : St1 NN L xs Inv := by
  intro k v_p1_calendars_made v_p1_calendars_holidayCount f_p1_calendars_rules f_p1_calendars_places f_p1_calendars_holidays v_p1_reader_pending v_p1_reader_length v_p1_reader_at v_p1_reader_number f_p1_reader_text f_p1_reader_jobOfLetter f_p1_reader_owners f_p1_reader_namePlaces f_p1_reader_conditions v_p1_current_starts v_p1_current_time f_p1_current_states f_p1_current_startTimes f_p1_current_loggedJobs f_p1_current_loggedTimes f_p1_kept_sums f_p1_kept_counts v_p1_latestRing_length f_p1_latestRing_row f_p1_ringFinder_queue f_p1_ringFinder_before f_p1_longest_sums f_p1_longest_before v_p1_longest_way_length f_p1_longest_way_row v_p1_net_jobs g_p1_net_numbers f_p1_net_needCounts g_p1_net_needed g_p1_net_conditions f_p1_net_allNeeded v_p1_spare_jobs g_p1_spare_numbers f_p1_spare_needCounts g_p1_spare_needed g_p1_spare_conditions f_p1_spare_allNeeded v_p2_code v_p2_length v_p2_jobs v_p2_newJobs v_p2_made v_p2_days v_p2_now v_p2_started v_p2_ringSize v_p2_place f_p2_text f_p2_names f_p2_calendars f_p2_priorities f_p2_starts f_p2_estimates f_p2_many f_p2_newNames f_p2_numbers f_p2_newMany f_p2_needs f_p2_conditions f_p2_newNeeds f_p2_newConditions f_p2_needPlaces f_p2_rules f_p2_of f_p2_holidays f_p2_states f_p2_ran f_p2_sums f_p2_kept f_p2_startedJob f_p2_startedAt f_p2_ring f_p2_came f_p2_level f_p2_again f_p2_way f_p2_before f_p2_path f_p3 hI hk hx
  clear hx
  have hN : 4000 ≤ NN := Nat.le_refl 4000
  obtain ⟨⟨a1, a2, a3, a4, a5⟩, ⟨b1, b2, b3, b4, b5⟩, hT, hnr, hre⟩ := hI
  have hj : 0 ≤ v_p1_net_jobs.toInt ∧ v_p1_net_jobs.toInt ≤ 26 := ⟨hnr.2.1, hnr.2.2.1⟩
  have hjB : 0 ≤ v_p2_jobs.toInt ∧ v_p2_jobs.toInt ≤ 26 := by rw [← hnr.1]; exact hj
  have hnb := hnr.nb
  have hnc := hnr.2.2.2.1
  have hnd := hnr.2.2.2.2.1
  have hs : 0 ≤ v_p2_started.toInt ∧ v_p2_started.toInt ≤ v_p2_started.toInt := ⟨b3, Int.le_refl _⟩
  have hB : v_p2_started.toInt ≤ 19900 := by omega
  have b4' : 6 * v_p2_started.toInt ≤ 26 * ((k + 6 : Nat) : Int) := by omega
  obtain ⟨n, t1, t2, t3, t4⟩ := hT
  obtain ⟨o1, e1, o2, e2, q1, q2, q3, q4, q5, q6, q7, q8, q9⟩ := rd_both t2 t3 t1 t4 hnr hre a5 b5 hN
  refine ⟨o1, e1, o2, e2, ⟨a1, a2, ?_, a4, q6⟩, ⟨b1, b2, ?_, ?_, q9⟩, ⟨0, Nat.zero_le _, q2, q3, fun i hi => absurd hi (Nat.not_lt_zero _)⟩, q5, q4⟩
  · rcases q7 with q | q
    · rw [q]; exact a3
    · omega
  · rcases q8 with q | q
    · rw [q]; exact b3
    · omega
  · rcases q8 with q | q
    · rw [q]; exact b4'
    · omega
theorem st_2 (L : Nat) (xs : Nat → Int32) (hL : L ≤ 3072) : St2 NN L xs Inv := by
  intro k v_p1_calendars_made v_p1_calendars_holidayCount f_p1_calendars_rules f_p1_calendars_places f_p1_calendars_holidays v_p1_reader_pending v_p1_reader_length v_p1_reader_at v_p1_reader_number f_p1_reader_text f_p1_reader_jobOfLetter f_p1_reader_owners f_p1_reader_namePlaces f_p1_reader_conditions v_p1_current_starts v_p1_current_time f_p1_current_states f_p1_current_startTimes f_p1_current_loggedJobs f_p1_current_loggedTimes f_p1_kept_sums f_p1_kept_counts v_p1_latestRing_length f_p1_latestRing_row f_p1_ringFinder_queue f_p1_ringFinder_before f_p1_longest_sums f_p1_longest_before v_p1_longest_way_length f_p1_longest_way_row v_p1_net_jobs g_p1_net_numbers f_p1_net_needCounts g_p1_net_needed g_p1_net_conditions f_p1_net_allNeeded v_p1_spare_jobs g_p1_spare_numbers f_p1_spare_needCounts g_p1_spare_needed g_p1_spare_conditions f_p1_spare_allNeeded v_p2_code v_p2_length v_p2_jobs v_p2_newJobs v_p2_made v_p2_days v_p2_now v_p2_started v_p2_ringSize v_p2_place f_p2_text f_p2_names f_p2_calendars f_p2_priorities f_p2_starts f_p2_estimates f_p2_many f_p2_newNames f_p2_numbers f_p2_newMany f_p2_needs f_p2_conditions f_p2_newNeeds f_p2_newConditions f_p2_needPlaces f_p2_rules f_p2_of f_p2_holidays f_p2_states f_p2_ran f_p2_sums f_p2_kept f_p2_startedJob f_p2_startedAt f_p2_ring f_p2_came f_p2_level f_p2_again f_p2_way f_p2_before f_p2_path f_p3 hI hk hx
  clear hx
  have hN : 4000 ≤ NN := Nat.le_refl 4000
  obtain ⟨⟨a1, a2, a3, a4, a5⟩, ⟨b1, b2, b3, b4, b5⟩, hT, hnr, hre⟩ := hI
  have hj : 0 ≤ v_p1_net_jobs.toInt ∧ v_p1_net_jobs.toInt ≤ 26 := ⟨hnr.2.1, hnr.2.2.1⟩
  have hjB : 0 ≤ v_p2_jobs.toInt ∧ v_p2_jobs.toInt ≤ 26 := by rw [← hnr.1]; exact hj
  have hnb := hnr.nb
  have hnc := hnr.2.2.2.1
  have hnd := hnr.2.2.2.2.1
  have hs : 0 ≤ v_p2_started.toInt ∧ v_p2_started.toInt ≤ v_p2_started.toInt := ⟨b3, Int.le_refl _⟩
  have hB : v_p2_started.toInt ≤ 19900 := by omega
  have b4' : 6 * v_p2_started.toInt ≤ 26 * ((k + 6 : Nat) : Int) := by omega
  obtain ⟨o1, e1, h1⟩ := ca_calendar (N := NN) (f1 := f_p1_calendars_rules) (f2 := f_p1_calendars_places) (a := xs (k + 1)) (b := xs (k + 2)) a1
  obtain ⟨o2, e2, h2⟩ := rf_calendar (N := NN) (cd := v_p2_code) (f1 := f_p2_rules) (f2 := f_p2_of) (a := xs (k + 1)) (b := xs (k + 2)) b1
  exact ⟨o1, e1, o2, e2, ⟨⟨h1, a2, a3, a4, a5⟩, ⟨h2, b2, b3, b4', b5⟩, hT, hnr, hre⟩⟩
theorem st_3 (L : Nat) (xs : Nat → Int32) (hL : L ≤ 3072) : St3 NN L xs Inv := by
  intro k v_p1_calendars_made v_p1_calendars_holidayCount f_p1_calendars_rules f_p1_calendars_places f_p1_calendars_holidays v_p1_reader_pending v_p1_reader_length v_p1_reader_at v_p1_reader_number f_p1_reader_text f_p1_reader_jobOfLetter f_p1_reader_owners f_p1_reader_namePlaces f_p1_reader_conditions v_p1_current_starts v_p1_current_time f_p1_current_states f_p1_current_startTimes f_p1_current_loggedJobs f_p1_current_loggedTimes f_p1_kept_sums f_p1_kept_counts v_p1_latestRing_length f_p1_latestRing_row f_p1_ringFinder_queue f_p1_ringFinder_before f_p1_longest_sums f_p1_longest_before v_p1_longest_way_length f_p1_longest_way_row v_p1_net_jobs g_p1_net_numbers f_p1_net_needCounts g_p1_net_needed g_p1_net_conditions f_p1_net_allNeeded v_p1_spare_jobs g_p1_spare_numbers f_p1_spare_needCounts g_p1_spare_needed g_p1_spare_conditions f_p1_spare_allNeeded v_p2_code v_p2_length v_p2_jobs v_p2_newJobs v_p2_made v_p2_days v_p2_now v_p2_started v_p2_ringSize v_p2_place f_p2_text f_p2_names f_p2_calendars f_p2_priorities f_p2_starts f_p2_estimates f_p2_many f_p2_newNames f_p2_numbers f_p2_newMany f_p2_needs f_p2_conditions f_p2_newNeeds f_p2_newConditions f_p2_needPlaces f_p2_rules f_p2_of f_p2_holidays f_p2_states f_p2_ran f_p2_sums f_p2_kept f_p2_startedJob f_p2_startedAt f_p2_ring f_p2_came f_p2_level f_p2_again f_p2_way f_p2_before f_p2_path f_p3 hI hk hx
  clear hx
  have hN : 4000 ≤ NN := Nat.le_refl 4000
  obtain ⟨⟨a1, a2, a3, a4, a5⟩, ⟨b1, b2, b3, b4, b5⟩, hT, hnr, hre⟩ := hI
  have hj : 0 ≤ v_p1_net_jobs.toInt ∧ v_p1_net_jobs.toInt ≤ 26 := ⟨hnr.2.1, hnr.2.2.1⟩
  have hjB : 0 ≤ v_p2_jobs.toInt ∧ v_p2_jobs.toInt ≤ 26 := by rw [← hnr.1]; exact hj
  have hnb := hnr.nb
  have hnc := hnr.2.2.2.1
  have hnd := hnr.2.2.2.2.1
  have hs : 0 ≤ v_p2_started.toInt ∧ v_p2_started.toInt ≤ v_p2_started.toInt := ⟨b3, Int.le_refl _⟩
  have hB : v_p2_started.toInt ≤ 19900 := by omega
  have b4' : 6 * v_p2_started.toInt ≤ 26 * ((k + 6 : Nat) : Int) := by omega
  obtain ⟨o1, e1, h1⟩ := ca_holiday (f := f_p1_calendars_holidays) a2 hN
  obtain ⟨o2, e2, h2⟩ := rf_holiday (cd := v_p2_code) (f := f_p2_holidays) b2 hN
  exact ⟨o1, e1, o2, e2, ⟨⟨a1, h1, a3, a4, a5⟩, ⟨b1, h2, b3, b4', b5⟩, hT, hnr, hre⟩⟩
theorem st_4 (L : Nat) (xs : Nat → Int32) (hL : L ≤ 3072) : St4 NN L xs Inv := by
  intro k v_p1_calendars_made v_p1_calendars_holidayCount f_p1_calendars_rules f_p1_calendars_places f_p1_calendars_holidays v_p1_reader_pending v_p1_reader_length v_p1_reader_at v_p1_reader_number f_p1_reader_text f_p1_reader_jobOfLetter f_p1_reader_owners f_p1_reader_namePlaces f_p1_reader_conditions v_p1_current_starts v_p1_current_time f_p1_current_states f_p1_current_startTimes f_p1_current_loggedJobs f_p1_current_loggedTimes f_p1_kept_sums f_p1_kept_counts v_p1_latestRing_length f_p1_latestRing_row f_p1_ringFinder_queue f_p1_ringFinder_before f_p1_longest_sums f_p1_longest_before v_p1_longest_way_length f_p1_longest_way_row v_p1_net_jobs g_p1_net_numbers f_p1_net_needCounts g_p1_net_needed g_p1_net_conditions f_p1_net_allNeeded v_p1_spare_jobs g_p1_spare_numbers f_p1_spare_needCounts g_p1_spare_needed g_p1_spare_conditions f_p1_spare_allNeeded v_p2_code v_p2_length v_p2_jobs v_p2_newJobs v_p2_made v_p2_days v_p2_now v_p2_started v_p2_ringSize v_p2_place f_p2_text f_p2_names f_p2_calendars f_p2_priorities f_p2_starts f_p2_estimates f_p2_many f_p2_newNames f_p2_numbers f_p2_newMany f_p2_needs f_p2_conditions f_p2_newNeeds f_p2_newConditions f_p2_needPlaces f_p2_rules f_p2_of f_p2_holidays f_p2_states f_p2_ran f_p2_sums f_p2_kept f_p2_startedJob f_p2_startedAt f_p2_ring f_p2_came f_p2_level f_p2_again f_p2_way f_p2_before f_p2_path f_p3 hI hk hx
  clear hx
  have hN : 4000 ≤ NN := Nat.le_refl 4000
  obtain ⟨⟨a1, a2, a3, a4, a5⟩, ⟨b1, b2, b3, b4, b5⟩, hT, hnr, hre⟩ := hI
  have hj : 0 ≤ v_p1_net_jobs.toInt ∧ v_p1_net_jobs.toInt ≤ 26 := ⟨hnr.2.1, hnr.2.2.1⟩
  have hjB : 0 ≤ v_p2_jobs.toInt ∧ v_p2_jobs.toInt ≤ 26 := by rw [← hnr.1]; exact hj
  have hnb := hnr.nb
  have hnc := hnr.2.2.2.1
  have hnd := hnr.2.2.2.2.1
  have hs : 0 ≤ v_p2_started.toInt ∧ v_p2_started.toInt ≤ v_p2_started.toInt := ⟨b3, Int.le_refl _⟩
  have hB : v_p2_started.toInt ≤ 19900 := by omega
  have b4' : 6 * v_p2_started.toInt ≤ 26 * ((k + 6 : Nat) : Int) := by omega
  obtain ⟨o1, e1, o2, e2, q1, q2, q3⟩ := nd_both (N := NN) (cd0 := v_p2_code) (q := f_p1_ringFinder_queue) (bf := f_p1_ringFinder_before) (g2 := g_p1_net_conditions) (cnd := f_p2_conditions) (came := f_p2_came) (lev := f_p2_level) (pth := f_p2_path) (x := xs (k + 1)) (y := xs (k + 2)) (c := xs (k + 3)) hnr hre hN
  exact ⟨o1, e1, o2, e2, ⟨a1, a2, a3, a4, a5⟩, ⟨b1, b2, b3, b4', b5⟩, hT, q3, q2⟩
theorem st_5 (L : Nat) (xs : Nat → Int32) (hL : L ≤ 3072) : St5 NN L xs Inv := by
  intro k v_p1_calendars_made v_p1_calendars_holidayCount f_p1_calendars_rules f_p1_calendars_places f_p1_calendars_holidays v_p1_reader_pending v_p1_reader_length v_p1_reader_at v_p1_reader_number f_p1_reader_text f_p1_reader_jobOfLetter f_p1_reader_owners f_p1_reader_namePlaces f_p1_reader_conditions v_p1_current_starts v_p1_current_time f_p1_current_states f_p1_current_startTimes f_p1_current_loggedJobs f_p1_current_loggedTimes f_p1_kept_sums f_p1_kept_counts v_p1_latestRing_length f_p1_latestRing_row f_p1_ringFinder_queue f_p1_ringFinder_before f_p1_longest_sums f_p1_longest_before v_p1_longest_way_length f_p1_longest_way_row v_p1_net_jobs g_p1_net_numbers f_p1_net_needCounts g_p1_net_needed g_p1_net_conditions f_p1_net_allNeeded v_p1_spare_jobs g_p1_spare_numbers f_p1_spare_needCounts g_p1_spare_needed g_p1_spare_conditions f_p1_spare_allNeeded v_p2_code v_p2_length v_p2_jobs v_p2_newJobs v_p2_made v_p2_days v_p2_now v_p2_started v_p2_ringSize v_p2_place f_p2_text f_p2_names f_p2_calendars f_p2_priorities f_p2_starts f_p2_estimates f_p2_many f_p2_newNames f_p2_numbers f_p2_newMany f_p2_needs f_p2_conditions f_p2_newNeeds f_p2_newConditions f_p2_needPlaces f_p2_rules f_p2_of f_p2_holidays f_p2_states f_p2_ran f_p2_sums f_p2_kept f_p2_startedJob f_p2_startedAt f_p2_ring f_p2_came f_p2_level f_p2_again f_p2_way f_p2_before f_p2_path f_p3 hI hk hx
  clear hx
  have hN : 4000 ≤ NN := Nat.le_refl 4000
  obtain ⟨⟨a1, a2, a3, a4, a5⟩, ⟨b1, b2, b3, b4, b5⟩, hT, hnr, hre⟩ := hI
  have hj : 0 ≤ v_p1_net_jobs.toInt ∧ v_p1_net_jobs.toInt ≤ 26 := ⟨hnr.2.1, hnr.2.2.1⟩
  have hjB : 0 ≤ v_p2_jobs.toInt ∧ v_p2_jobs.toInt ≤ 26 := by rw [← hnr.1]; exact hj
  have hnb := hnr.nb
  have hnc := hnr.2.2.2.1
  have hnd := hnr.2.2.2.2.1
  have hs : 0 ≤ v_p2_started.toInt ∧ v_p2_started.toInt ≤ v_p2_started.toInt := ⟨b3, Int.le_refl _⟩
  have hB : v_p2_started.toInt ≤ 19900 := by omega
  have b4' : 6 * v_p2_started.toInt ≤ 26 * ((k + 6 : Nat) : Int) := by omega
  obtain ⟨o1, e1, h1⟩ := ca_next (f1 := f_p1_calendars_rules) (f2 := f_p1_calendars_places) (f3 := f_p1_calendars_holidays) (x := xs (k + 1)) a1 a2 hN
  obtain ⟨o2, e2, h2⟩ := rf_next (cd := v_p2_code) (f1 := f_p2_rules) (f2 := f_p2_of) (f := f_p2_holidays) (a := xs (k + 1)) b1 b2 hN
  exact ⟨o1, e1, o2, e2, ⟨⟨a1, a2, a3, a4, a5⟩, ⟨b1, b2, b3, b4', b5⟩, hT, hnr, hre⟩⟩
theorem st_6 (L : Nat) (xs : Nat → Int32) (hL : L ≤ 3072) : St6 NN L xs Inv := by
  intro k v_p1_calendars_made v_p1_calendars_holidayCount f_p1_calendars_rules f_p1_calendars_places f_p1_calendars_holidays v_p1_reader_pending v_p1_reader_length v_p1_reader_at v_p1_reader_number f_p1_reader_text f_p1_reader_jobOfLetter f_p1_reader_owners f_p1_reader_namePlaces f_p1_reader_conditions v_p1_current_starts v_p1_current_time f_p1_current_states f_p1_current_startTimes f_p1_current_loggedJobs f_p1_current_loggedTimes f_p1_kept_sums f_p1_kept_counts v_p1_latestRing_length f_p1_latestRing_row f_p1_ringFinder_queue f_p1_ringFinder_before f_p1_longest_sums f_p1_longest_before v_p1_longest_way_length f_p1_longest_way_row v_p1_net_jobs g_p1_net_numbers f_p1_net_needCounts g_p1_net_needed g_p1_net_conditions f_p1_net_allNeeded v_p1_spare_jobs g_p1_spare_numbers f_p1_spare_needCounts g_p1_spare_needed g_p1_spare_conditions f_p1_spare_allNeeded v_p2_code v_p2_length v_p2_jobs v_p2_newJobs v_p2_made v_p2_days v_p2_now v_p2_started v_p2_ringSize v_p2_place f_p2_text f_p2_names f_p2_calendars f_p2_priorities f_p2_starts f_p2_estimates f_p2_many f_p2_newNames f_p2_numbers f_p2_newMany f_p2_needs f_p2_conditions f_p2_newNeeds f_p2_newConditions f_p2_needPlaces f_p2_rules f_p2_of f_p2_holidays f_p2_states f_p2_ran f_p2_sums f_p2_kept f_p2_startedJob f_p2_startedAt f_p2_ring f_p2_came f_p2_level f_p2_again f_p2_way f_p2_before f_p2_path f_p3 hI hk hx
  clear hx
  have hN : 4000 ≤ NN := Nat.le_refl 4000
  obtain ⟨⟨a1, a2, a3, a4, a5⟩, ⟨b1, b2, b3, b4, b5⟩, hT, hnr, hre⟩ := hI
  have hj : 0 ≤ v_p1_net_jobs.toInt ∧ v_p1_net_jobs.toInt ≤ 26 := ⟨hnr.2.1, hnr.2.2.1⟩
  have hjB : 0 ≤ v_p2_jobs.toInt ∧ v_p2_jobs.toInt ≤ 26 := by rw [← hnr.1]; exact hj
  have hnb := hnr.nb
  have hnc := hnr.2.2.2.1
  have hnd := hnr.2.2.2.2.1
  have hs : 0 ≤ v_p2_started.toInt ∧ v_p2_started.toInt ≤ v_p2_started.toInt := ⟨b3, Int.le_refl _⟩
  have hB : v_p2_started.toInt ≤ 19900 := by omega
  have b4' : 6 * v_p2_started.toInt ≤ 26 * ((k + 6 : Nat) : Int) := by omega
  obtain ⟨o1, e1, h1⟩ := ca_plan (t := v_p1_current_time) (f1 := f_p1_calendars_rules) (f2 := f_p1_calendars_places) (f3 := f_p1_calendars_holidays) (s1 := f_p1_current_states) (s2 := f_p1_current_startTimes) (s3 := f_p1_current_loggedJobs) (s4 := f_p1_current_loggedTimes) (g1 := g_p1_net_numbers) (g3 := g_p1_net_conditions) a1 a2 a3 hj hnc hnd hN
  obtain ⟨o2, e2, h2⟩ := rf_plan (cd := v_p2_code) (now := v_p2_now) hjB hnb b1 b2 hs hN
  exact ⟨o1, e1, o2, e2, ⟨⟨a1, a2, h1, a4, a5⟩, ⟨b1, b2, h2.1, by omega, b5⟩, hT, hnr, hre⟩⟩
theorem st_7 (L : Nat) (xs : Nat → Int32) (hL : L ≤ 3072) : St7 NN L xs Inv := by
  intro k v_p1_calendars_made v_p1_calendars_holidayCount f_p1_calendars_rules f_p1_calendars_places f_p1_calendars_holidays v_p1_reader_pending v_p1_reader_length v_p1_reader_at v_p1_reader_number f_p1_reader_text f_p1_reader_jobOfLetter f_p1_reader_owners f_p1_reader_namePlaces f_p1_reader_conditions v_p1_current_starts v_p1_current_time f_p1_current_states f_p1_current_startTimes f_p1_current_loggedJobs f_p1_current_loggedTimes f_p1_kept_sums f_p1_kept_counts v_p1_latestRing_length f_p1_latestRing_row f_p1_ringFinder_queue f_p1_ringFinder_before f_p1_longest_sums f_p1_longest_before v_p1_longest_way_length f_p1_longest_way_row v_p1_net_jobs g_p1_net_numbers f_p1_net_needCounts g_p1_net_needed g_p1_net_conditions f_p1_net_allNeeded v_p1_spare_jobs g_p1_spare_numbers f_p1_spare_needCounts g_p1_spare_needed g_p1_spare_conditions f_p1_spare_allNeeded v_p2_code v_p2_length v_p2_jobs v_p2_newJobs v_p2_made v_p2_days v_p2_now v_p2_started v_p2_ringSize v_p2_place f_p2_text f_p2_names f_p2_calendars f_p2_priorities f_p2_starts f_p2_estimates f_p2_many f_p2_newNames f_p2_numbers f_p2_newMany f_p2_needs f_p2_conditions f_p2_newNeeds f_p2_newConditions f_p2_needPlaces f_p2_rules f_p2_of f_p2_holidays f_p2_states f_p2_ran f_p2_sums f_p2_kept f_p2_startedJob f_p2_startedAt f_p2_ring f_p2_came f_p2_level f_p2_again f_p2_way f_p2_before f_p2_path f_p3 hI hk hx
  clear hx
  have hN : 4000 ≤ NN := Nat.le_refl 4000
  obtain ⟨⟨a1, a2, a3, a4, a5⟩, ⟨b1, b2, b3, b4, b5⟩, hT, hnr, hre⟩ := hI
  have hj : 0 ≤ v_p1_net_jobs.toInt ∧ v_p1_net_jobs.toInt ≤ 26 := ⟨hnr.2.1, hnr.2.2.1⟩
  have hjB : 0 ≤ v_p2_jobs.toInt ∧ v_p2_jobs.toInt ≤ 26 := by rw [← hnr.1]; exact hj
  have hnb := hnr.nb
  have hnc := hnr.2.2.2.1
  have hnd := hnr.2.2.2.2.1
  have hs : 0 ≤ v_p2_started.toInt ∧ v_p2_started.toInt ≤ v_p2_started.toInt := ⟨b3, Int.le_refl _⟩
  have hB : v_p2_started.toInt ≤ 19900 := by omega
  have b4' : 6 * v_p2_started.toInt ≤ 26 * ((k + 6 : Nat) : Int) := by omega
  obtain ⟨o1, e1, h1⟩ := ca_event (t := v_p1_current_time) (s1 := f_p1_current_states) (s2 := f_p1_current_startTimes) (s3 := f_p1_current_loggedJobs) (s4 := f_p1_current_loggedTimes) (ks := f_p1_kept_sums) (kc := f_p1_kept_counts) (g1 := g_p1_net_numbers) (g3 := g_p1_net_conditions) (x := xs (k + 1)) (y := xs (k + 2)) (w := xs (k + 3)) a3 hj hnc hnd hN
  obtain ⟨o2, e2, h2⟩ := rf_event (cd := v_p2_code) (now := v_p2_now) hjB hnb hs hB hN
  exact ⟨o1, e1, o2, e2, ⟨⟨a1, a2, h1, a4, a5⟩, ⟨b1, b2, h2.1, by omega, b5⟩, hT, hnr, hre⟩⟩
theorem st_8 (L : Nat) (xs : Nat → Int32) (hL : L ≤ 3072) : St8 NN L xs Inv := by
  intro k v_p1_calendars_made v_p1_calendars_holidayCount f_p1_calendars_rules f_p1_calendars_places f_p1_calendars_holidays v_p1_reader_pending v_p1_reader_length v_p1_reader_at v_p1_reader_number f_p1_reader_text f_p1_reader_jobOfLetter f_p1_reader_owners f_p1_reader_namePlaces f_p1_reader_conditions v_p1_current_starts v_p1_current_time f_p1_current_states f_p1_current_startTimes f_p1_current_loggedJobs f_p1_current_loggedTimes f_p1_kept_sums f_p1_kept_counts v_p1_latestRing_length f_p1_latestRing_row f_p1_ringFinder_queue f_p1_ringFinder_before f_p1_longest_sums f_p1_longest_before v_p1_longest_way_length f_p1_longest_way_row v_p1_net_jobs g_p1_net_numbers f_p1_net_needCounts g_p1_net_needed g_p1_net_conditions f_p1_net_allNeeded v_p1_spare_jobs g_p1_spare_numbers f_p1_spare_needCounts g_p1_spare_needed g_p1_spare_conditions f_p1_spare_allNeeded v_p2_code v_p2_length v_p2_jobs v_p2_newJobs v_p2_made v_p2_days v_p2_now v_p2_started v_p2_ringSize v_p2_place f_p2_text f_p2_names f_p2_calendars f_p2_priorities f_p2_starts f_p2_estimates f_p2_many f_p2_newNames f_p2_numbers f_p2_newMany f_p2_needs f_p2_conditions f_p2_newNeeds f_p2_newConditions f_p2_needPlaces f_p2_rules f_p2_of f_p2_holidays f_p2_states f_p2_ran f_p2_sums f_p2_kept f_p2_startedJob f_p2_startedAt f_p2_ring f_p2_came f_p2_level f_p2_again f_p2_way f_p2_before f_p2_path f_p3 hI hk hx
  clear hx
  have hN : 4000 ≤ NN := Nat.le_refl 4000
  obtain ⟨⟨a1, a2, a3, a4, a5⟩, ⟨b1, b2, b3, b4, b5⟩, hT, hnr, hre⟩ := hI
  have hj : 0 ≤ v_p1_net_jobs.toInt ∧ v_p1_net_jobs.toInt ≤ 26 := ⟨hnr.2.1, hnr.2.2.1⟩
  have hjB : 0 ≤ v_p2_jobs.toInt ∧ v_p2_jobs.toInt ≤ 26 := by rw [← hnr.1]; exact hj
  have hnb := hnr.nb
  have hnc := hnr.2.2.2.1
  have hnd := hnr.2.2.2.2.1
  have hs : 0 ≤ v_p2_started.toInt ∧ v_p2_started.toInt ≤ v_p2_started.toInt := ⟨b3, Int.le_refl _⟩
  have hB : v_p2_started.toInt ≤ 19900 := by omega
  have b4' : 6 * v_p2_started.toInt ≤ 26 * ((k + 6 : Nat) : Int) := by omega
  obtain ⟨o1, e1, h1⟩ := ca_started (N := NN) (f1 := f_p1_current_loggedJobs) (f2 := f_p1_current_loggedTimes) (a := xs (k + 1)) (b := xs (k + 2)) a3
  obtain ⟨o2, e2, h2⟩ := rf_started (N := NN) (cd := v_p2_code) (f := f_p2_startedJob) (l := f_p2_startedAt) (a := xs (k + 1)) (b := xs (k + 2)) (show v_p2_started.toInt ≤ 20000 by omega)
  exact ⟨o1, e1, o2, e2, ⟨⟨a1, a2, a3, a4, a5⟩, ⟨b1, b2, b3, b4', b5⟩, hT, hnr, hre⟩⟩
theorem st_9 (L : Nat) (xs : Nat → Int32) (hL : L ≤ 3072) : St9 NN L xs Inv := by
  intro k v_p1_calendars_made v_p1_calendars_holidayCount f_p1_calendars_rules f_p1_calendars_places f_p1_calendars_holidays v_p1_reader_pending v_p1_reader_length v_p1_reader_at v_p1_reader_number f_p1_reader_text f_p1_reader_jobOfLetter f_p1_reader_owners f_p1_reader_namePlaces f_p1_reader_conditions v_p1_current_starts v_p1_current_time f_p1_current_states f_p1_current_startTimes f_p1_current_loggedJobs f_p1_current_loggedTimes f_p1_kept_sums f_p1_kept_counts v_p1_latestRing_length f_p1_latestRing_row f_p1_ringFinder_queue f_p1_ringFinder_before f_p1_longest_sums f_p1_longest_before v_p1_longest_way_length f_p1_longest_way_row v_p1_net_jobs g_p1_net_numbers f_p1_net_needCounts g_p1_net_needed g_p1_net_conditions f_p1_net_allNeeded v_p1_spare_jobs g_p1_spare_numbers f_p1_spare_needCounts g_p1_spare_needed g_p1_spare_conditions f_p1_spare_allNeeded v_p2_code v_p2_length v_p2_jobs v_p2_newJobs v_p2_made v_p2_days v_p2_now v_p2_started v_p2_ringSize v_p2_place f_p2_text f_p2_names f_p2_calendars f_p2_priorities f_p2_starts f_p2_estimates f_p2_many f_p2_newNames f_p2_numbers f_p2_newMany f_p2_needs f_p2_conditions f_p2_newNeeds f_p2_newConditions f_p2_needPlaces f_p2_rules f_p2_of f_p2_holidays f_p2_states f_p2_ran f_p2_sums f_p2_kept f_p2_startedJob f_p2_startedAt f_p2_ring f_p2_came f_p2_level f_p2_again f_p2_way f_p2_before f_p2_path f_p3 hI hk hx
  clear hx
  have hN : 4000 ≤ NN := Nat.le_refl 4000
  obtain ⟨⟨a1, a2, a3, a4, a5⟩, ⟨b1, b2, b3, b4, b5⟩, hT, hnr, hre⟩ := hI
  have hj : 0 ≤ v_p1_net_jobs.toInt ∧ v_p1_net_jobs.toInt ≤ 26 := ⟨hnr.2.1, hnr.2.2.1⟩
  have hjB : 0 ≤ v_p2_jobs.toInt ∧ v_p2_jobs.toInt ≤ 26 := by rw [← hnr.1]; exact hj
  have hnb := hnr.nb
  have hnc := hnr.2.2.2.1
  have hnd := hnr.2.2.2.2.1
  have hs : 0 ≤ v_p2_started.toInt ∧ v_p2_started.toInt ≤ v_p2_started.toInt := ⟨b3, Int.le_refl _⟩
  have hB : v_p2_started.toInt ≤ 19900 := by omega
  have b4' : 6 * v_p2_started.toInt ≤ 26 * ((k + 6 : Nat) : Int) := by omega
  obtain ⟨o1, e1, h1⟩ := ca_rerun (t := v_p1_current_time) (s1 := f_p1_current_states) (s2 := f_p1_current_startTimes) (s3 := f_p1_current_loggedJobs) (s4 := f_p1_current_loggedTimes) (g1 := g_p1_net_numbers) (g3 := g_p1_net_conditions) (al := f_p1_net_allNeeded) (a := xs (k + 1)) a3 hj hnc hnd hN
  obtain ⟨o2, e2, h2⟩ := rf_rerun (cd := v_p2_code) (now := v_p2_now) (a := xs (k + 1)) hjB hnb hs hB hN
  exact ⟨o1, e1, o2, e2, ⟨⟨a1, a2, h1, a4, a5⟩, ⟨b1, b2, h2.1, by omega, b5⟩, hT, hnr, hre⟩⟩
theorem st_10 (L : Nat) (xs : Nat → Int32) (hL : L ≤ 3072) : St10 NN L xs Inv := by
  intro k v_p1_calendars_made v_p1_calendars_holidayCount f_p1_calendars_rules f_p1_calendars_places f_p1_calendars_holidays v_p1_reader_pending v_p1_reader_length v_p1_reader_at v_p1_reader_number f_p1_reader_text f_p1_reader_jobOfLetter f_p1_reader_owners f_p1_reader_namePlaces f_p1_reader_conditions v_p1_current_starts v_p1_current_time f_p1_current_states f_p1_current_startTimes f_p1_current_loggedJobs f_p1_current_loggedTimes f_p1_kept_sums f_p1_kept_counts v_p1_latestRing_length f_p1_latestRing_row f_p1_ringFinder_queue f_p1_ringFinder_before f_p1_longest_sums f_p1_longest_before v_p1_longest_way_length f_p1_longest_way_row v_p1_net_jobs g_p1_net_numbers f_p1_net_needCounts g_p1_net_needed g_p1_net_conditions f_p1_net_allNeeded v_p1_spare_jobs g_p1_spare_numbers f_p1_spare_needCounts g_p1_spare_needed g_p1_spare_conditions f_p1_spare_allNeeded v_p2_code v_p2_length v_p2_jobs v_p2_newJobs v_p2_made v_p2_days v_p2_now v_p2_started v_p2_ringSize v_p2_place f_p2_text f_p2_names f_p2_calendars f_p2_priorities f_p2_starts f_p2_estimates f_p2_many f_p2_newNames f_p2_numbers f_p2_newMany f_p2_needs f_p2_conditions f_p2_newNeeds f_p2_newConditions f_p2_needPlaces f_p2_rules f_p2_of f_p2_holidays f_p2_states f_p2_ran f_p2_sums f_p2_kept f_p2_startedJob f_p2_startedAt f_p2_ring f_p2_came f_p2_level f_p2_again f_p2_way f_p2_before f_p2_path f_p3 hI hk hx
  clear hx
  have hN : 4000 ≤ NN := Nat.le_refl 4000
  obtain ⟨⟨a1, a2, a3, a4, a5⟩, ⟨b1, b2, b3, b4, b5⟩, hT, hnr, hre⟩ := hI
  have hj : 0 ≤ v_p1_net_jobs.toInt ∧ v_p1_net_jobs.toInt ≤ 26 := ⟨hnr.2.1, hnr.2.2.1⟩
  have hjB : 0 ≤ v_p2_jobs.toInt ∧ v_p2_jobs.toInt ≤ 26 := by rw [← hnr.1]; exact hj
  have hnb := hnr.nb
  have hnc := hnr.2.2.2.1
  have hnd := hnr.2.2.2.2.1
  have hs : 0 ≤ v_p2_started.toInt ∧ v_p2_started.toInt ≤ v_p2_started.toInt := ⟨b3, Int.le_refl _⟩
  have hB : v_p2_started.toInt ≤ 19900 := by omega
  have b4' : 6 * v_p2_started.toInt ≤ 26 * ((k + 6 : Nat) : Int) := by omega
  have hrl : 0 ≤ v_p1_latestRing_length.toInt ∧ v_p1_latestRing_length.toInt ≤ 26 := ⟨hre.2.1, hre.2.2.1⟩
  obtain ⟨o1, e1, h1⟩ := ca_ring (N := NN) (f := f_p1_latestRing_row) (a := xs (k + 1)) hrl
  obtain ⟨o2, e2, h2⟩ := rf_ring (N := NN) (cd := v_p2_code) (rs := v_p2_ringSize) (f := f_p2_ring) (a := xs (k + 1)) (by rw [← hre.1]; exact hrl)
  refine ⟨o1, e1, o2, e2, ?_, ⟨⟨a1, a2, a3, a4, a5⟩, ⟨b1, b2, b3, b4', b5⟩, hT, hnr, hre⟩⟩
  rw [h1, h2, ← hre.1]
  split
  · rename_i q
    exact hre.2.2.2 _ (by omega)
  · rfl
theorem st_11 (L : Nat) (xs : Nat → Int32) (hL : L ≤ 3072) : St11 NN L xs Inv := by
  intro k v_p1_calendars_made v_p1_calendars_holidayCount f_p1_calendars_rules f_p1_calendars_places f_p1_calendars_holidays v_p1_reader_pending v_p1_reader_length v_p1_reader_at v_p1_reader_number f_p1_reader_text f_p1_reader_jobOfLetter f_p1_reader_owners f_p1_reader_namePlaces f_p1_reader_conditions v_p1_current_starts v_p1_current_time f_p1_current_states f_p1_current_startTimes f_p1_current_loggedJobs f_p1_current_loggedTimes f_p1_kept_sums f_p1_kept_counts v_p1_latestRing_length f_p1_latestRing_row f_p1_ringFinder_queue f_p1_ringFinder_before f_p1_longest_sums f_p1_longest_before v_p1_longest_way_length f_p1_longest_way_row v_p1_net_jobs g_p1_net_numbers f_p1_net_needCounts g_p1_net_needed g_p1_net_conditions f_p1_net_allNeeded v_p1_spare_jobs g_p1_spare_numbers f_p1_spare_needCounts g_p1_spare_needed g_p1_spare_conditions f_p1_spare_allNeeded v_p2_code v_p2_length v_p2_jobs v_p2_newJobs v_p2_made v_p2_days v_p2_now v_p2_started v_p2_ringSize v_p2_place f_p2_text f_p2_names f_p2_calendars f_p2_priorities f_p2_starts f_p2_estimates f_p2_many f_p2_newNames f_p2_numbers f_p2_newMany f_p2_needs f_p2_conditions f_p2_newNeeds f_p2_newConditions f_p2_needPlaces f_p2_rules f_p2_of f_p2_holidays f_p2_states f_p2_ran f_p2_sums f_p2_kept f_p2_startedJob f_p2_startedAt f_p2_ring f_p2_came f_p2_level f_p2_again f_p2_way f_p2_before f_p2_path f_p3 hI hk hx
  clear hx
  have hN : 4000 ≤ NN := Nat.le_refl 4000
  obtain ⟨⟨a1, a2, a3, a4, a5⟩, ⟨b1, b2, b3, b4, b5⟩, hT, hnr, hre⟩ := hI
  have hj : 0 ≤ v_p1_net_jobs.toInt ∧ v_p1_net_jobs.toInt ≤ 26 := ⟨hnr.2.1, hnr.2.2.1⟩
  have hjB : 0 ≤ v_p2_jobs.toInt ∧ v_p2_jobs.toInt ≤ 26 := by rw [← hnr.1]; exact hj
  have hnb := hnr.nb
  have hnc := hnr.2.2.2.1
  have hnd := hnr.2.2.2.2.1
  have hs : 0 ≤ v_p2_started.toInt ∧ v_p2_started.toInt ≤ v_p2_started.toInt := ⟨b3, Int.le_refl _⟩
  have hB : v_p2_started.toInt ≤ 19900 := by omega
  have b4' : 6 * v_p2_started.toInt ≤ 26 * ((k + 6 : Nat) : Int) := by omega
  obtain ⟨o1, e1, h1⟩ := ca_crit (st := f_p1_current_states) (f1 := f_p1_longest_sums) (len := v_p1_longest_way_length) (row := f_p1_longest_way_row) (g1 := g_p1_net_numbers) (f3 := f_p1_net_allNeeded) (a := xs (k + 1)) a4 hj hnc hnd hN
  obtain ⟨o2, e2, h2⟩ := rf_crit (cd := v_p2_code) (a := xs (k + 1)) hjB hnb b5 hN
  exact ⟨o1, e1, o2, e2, ⟨⟨a1, a2, a3, h1, a5⟩, ⟨b1, b2, b3, b4', b5⟩, hT, hnr, hre⟩⟩
theorem st_12 (L : Nat) (xs : Nat → Int32) (hL : L ≤ 3072) : St12 NN L xs Inv := by
  intro k v_p1_calendars_made v_p1_calendars_holidayCount f_p1_calendars_rules f_p1_calendars_places f_p1_calendars_holidays v_p1_reader_pending v_p1_reader_length v_p1_reader_at v_p1_reader_number f_p1_reader_text f_p1_reader_jobOfLetter f_p1_reader_owners f_p1_reader_namePlaces f_p1_reader_conditions v_p1_current_starts v_p1_current_time f_p1_current_states f_p1_current_startTimes f_p1_current_loggedJobs f_p1_current_loggedTimes f_p1_kept_sums f_p1_kept_counts v_p1_latestRing_length f_p1_latestRing_row f_p1_ringFinder_queue f_p1_ringFinder_before f_p1_longest_sums f_p1_longest_before v_p1_longest_way_length f_p1_longest_way_row v_p1_net_jobs g_p1_net_numbers f_p1_net_needCounts g_p1_net_needed g_p1_net_conditions f_p1_net_allNeeded v_p1_spare_jobs g_p1_spare_numbers f_p1_spare_needCounts g_p1_spare_needed g_p1_spare_conditions f_p1_spare_allNeeded v_p2_code v_p2_length v_p2_jobs v_p2_newJobs v_p2_made v_p2_days v_p2_now v_p2_started v_p2_ringSize v_p2_place f_p2_text f_p2_names f_p2_calendars f_p2_priorities f_p2_starts f_p2_estimates f_p2_many f_p2_newNames f_p2_numbers f_p2_newMany f_p2_needs f_p2_conditions f_p2_newNeeds f_p2_newConditions f_p2_needPlaces f_p2_rules f_p2_of f_p2_holidays f_p2_states f_p2_ran f_p2_sums f_p2_kept f_p2_startedJob f_p2_startedAt f_p2_ring f_p2_came f_p2_level f_p2_again f_p2_way f_p2_before f_p2_path f_p3 hI hk hx
  clear hx
  have hN : 4000 ≤ NN := Nat.le_refl 4000
  obtain ⟨⟨a1, a2, a3, a4, a5⟩, ⟨b1, b2, b3, b4, b5⟩, hT, hnr, hre⟩ := hI
  have hj : 0 ≤ v_p1_net_jobs.toInt ∧ v_p1_net_jobs.toInt ≤ 26 := ⟨hnr.2.1, hnr.2.2.1⟩
  have hjB : 0 ≤ v_p2_jobs.toInt ∧ v_p2_jobs.toInt ≤ 26 := by rw [← hnr.1]; exact hj
  have hnb := hnr.nb
  have hnc := hnr.2.2.2.1
  have hnd := hnr.2.2.2.2.1
  have hs : 0 ≤ v_p2_started.toInt ∧ v_p2_started.toInt ≤ v_p2_started.toInt := ⟨b3, Int.le_refl _⟩
  have hB : v_p2_started.toInt ≤ 19900 := by omega
  have b4' : 6 * v_p2_started.toInt ≤ 26 * ((k + 6 : Nat) : Int) := by omega
  obtain ⟨o1, e1, -⟩ := rf_mean (N := NN) (cd := v_p2_code) (l := f_p2_sums) (f := f_p2_kept) (a := xs (k + 1)) (b := xs (k + 2)) hjB
  rcases ca_mean (N := NN) (l := f_p1_kept_sums) (f := f_p1_kept_counts) (a := xs (k + 1)) (b := xs (k + 2)) hj with ⟨o, e⟩ | ⟨o, e⟩
  · exact ⟨0, vp_updL f_p3 0 o, Or.inl ⟨o, e, rfl, rfl⟩, o1, e1, ⟨⟨a1, a2, a3, a4, a5⟩, ⟨b1, b2, b3, b4', b5⟩, hT, hnr, hre⟩⟩
  · exact ⟨1, f_p3, Or.inr ⟨o, e, rfl, rfl⟩, o1, e1, ⟨⟨a1, a2, a3, a4, a5⟩, ⟨b1, b2, b3, b4', b5⟩, hT, hnr, hre⟩⟩
theorem st_13 (L : Nat) (xs : Nat → Int32) (hL : L ≤ 3072) : St13 NN L xs Inv := by
  intro k v_p1_calendars_made v_p1_calendars_holidayCount f_p1_calendars_rules f_p1_calendars_places f_p1_calendars_holidays v_p1_reader_pending v_p1_reader_length v_p1_reader_at v_p1_reader_number f_p1_reader_text f_p1_reader_jobOfLetter f_p1_reader_owners f_p1_reader_namePlaces f_p1_reader_conditions v_p1_current_starts v_p1_current_time f_p1_current_states f_p1_current_startTimes f_p1_current_loggedJobs f_p1_current_loggedTimes f_p1_kept_sums f_p1_kept_counts v_p1_latestRing_length f_p1_latestRing_row f_p1_ringFinder_queue f_p1_ringFinder_before f_p1_longest_sums f_p1_longest_before v_p1_longest_way_length f_p1_longest_way_row v_p1_net_jobs g_p1_net_numbers f_p1_net_needCounts g_p1_net_needed g_p1_net_conditions f_p1_net_allNeeded v_p1_spare_jobs g_p1_spare_numbers f_p1_spare_needCounts g_p1_spare_needed g_p1_spare_conditions f_p1_spare_allNeeded v_p2_code v_p2_length v_p2_jobs v_p2_newJobs v_p2_made v_p2_days v_p2_now v_p2_started v_p2_ringSize v_p2_place f_p2_text f_p2_names f_p2_calendars f_p2_priorities f_p2_starts f_p2_estimates f_p2_many f_p2_newNames f_p2_numbers f_p2_newMany f_p2_needs f_p2_conditions f_p2_newNeeds f_p2_newConditions f_p2_needPlaces f_p2_rules f_p2_of f_p2_holidays f_p2_states f_p2_ran f_p2_sums f_p2_kept f_p2_startedJob f_p2_startedAt f_p2_ring f_p2_came f_p2_level f_p2_again f_p2_way f_p2_before f_p2_path f_p3 hI hk hx
  clear hx
  have hN : 4000 ≤ NN := Nat.le_refl 4000
  obtain ⟨⟨a1, a2, a3, a4, a5⟩, ⟨b1, b2, b3, b4, b5⟩, hT, hnr, hre⟩ := hI
  have hj : 0 ≤ v_p1_net_jobs.toInt ∧ v_p1_net_jobs.toInt ≤ 26 := ⟨hnr.2.1, hnr.2.2.1⟩
  have hjB : 0 ≤ v_p2_jobs.toInt ∧ v_p2_jobs.toInt ≤ 26 := by rw [← hnr.1]; exact hj
  have hnb := hnr.nb
  have hnc := hnr.2.2.2.1
  have hnd := hnr.2.2.2.2.1
  have hs : 0 ≤ v_p2_started.toInt ∧ v_p2_started.toInt ≤ v_p2_started.toInt := ⟨b3, Int.le_refl _⟩
  have hB : v_p2_started.toInt ≤ 19900 := by omega
  have b4' : 6 * v_p2_started.toInt ≤ 26 * ((k + 6 : Nat) : Int) := by omega
  obtain ⟨o1, e1, h1⟩ := ca_late (s1 := f_p1_current_states) (s2 := f_p1_current_startTimes) (ks := f_p1_kept_sums) (kc := f_p1_kept_counts) (g := g_p1_net_numbers) (b := xs (k + 3)) hj hN
  obtain ⟨o2, e2, h2⟩ := rf_late (cd := v_p2_code) (b := xs (k + 3)) hjB hN
  exact ⟨o1, e1, o2, e2, ⟨⟨a1, a2, a3, a4, a5⟩, ⟨b1, b2, b3, b4', b5⟩, hT, hnr, hre⟩⟩
theorem st_14 (L : Nat) (xs : Nat → Int32) (hL : L ≤ 3072) : St14 NN L xs Inv := by
  intro k v_p1_calendars_made v_p1_calendars_holidayCount f_p1_calendars_rules f_p1_calendars_places f_p1_calendars_holidays v_p1_reader_pending v_p1_reader_length v_p1_reader_at v_p1_reader_number f_p1_reader_text f_p1_reader_jobOfLetter f_p1_reader_owners f_p1_reader_namePlaces f_p1_reader_conditions v_p1_current_starts v_p1_current_time f_p1_current_states f_p1_current_startTimes f_p1_current_loggedJobs f_p1_current_loggedTimes f_p1_kept_sums f_p1_kept_counts v_p1_latestRing_length f_p1_latestRing_row f_p1_ringFinder_queue f_p1_ringFinder_before f_p1_longest_sums f_p1_longest_before v_p1_longest_way_length f_p1_longest_way_row v_p1_net_jobs g_p1_net_numbers f_p1_net_needCounts g_p1_net_needed g_p1_net_conditions f_p1_net_allNeeded v_p1_spare_jobs g_p1_spare_numbers f_p1_spare_needCounts g_p1_spare_needed g_p1_spare_conditions f_p1_spare_allNeeded v_p2_code v_p2_length v_p2_jobs v_p2_newJobs v_p2_made v_p2_days v_p2_now v_p2_started v_p2_ringSize v_p2_place f_p2_text f_p2_names f_p2_calendars f_p2_priorities f_p2_starts f_p2_estimates f_p2_many f_p2_newNames f_p2_numbers f_p2_newMany f_p2_needs f_p2_conditions f_p2_newNeeds f_p2_newConditions f_p2_needPlaces f_p2_rules f_p2_of f_p2_holidays f_p2_states f_p2_ran f_p2_sums f_p2_kept f_p2_startedJob f_p2_startedAt f_p2_ring f_p2_came f_p2_level f_p2_again f_p2_way f_p2_before f_p2_path f_p3 hI hk hx
  clear hx
  have hN : 4000 ≤ NN := Nat.le_refl 4000
  obtain ⟨⟨a1, a2, a3, a4, a5⟩, ⟨b1, b2, b3, b4, b5⟩, hT, hnr, hre⟩ := hI
  have hj : 0 ≤ v_p1_net_jobs.toInt ∧ v_p1_net_jobs.toInt ≤ 26 := ⟨hnr.2.1, hnr.2.2.1⟩
  have hjB : 0 ≤ v_p2_jobs.toInt ∧ v_p2_jobs.toInt ≤ 26 := by rw [← hnr.1]; exact hj
  have hnb := hnr.nb
  have hnc := hnr.2.2.2.1
  have hnd := hnr.2.2.2.2.1
  have hs : 0 ≤ v_p2_started.toInt ∧ v_p2_started.toInt ≤ v_p2_started.toInt := ⟨b3, Int.le_refl _⟩
  have hB : v_p2_started.toInt ≤ 19900 := by omega
  have b4' : 6 * v_p2_started.toInt ≤ 26 * ((k + 6 : Nat) : Int) := by omega
  obtain ⟨o1, e1, h1⟩ := ca_state (N := NN) (f := f_p1_current_states) (a := xs (k + 1)) hj
  obtain ⟨o2, e2, h2⟩ := rf_state (N := NN) (cd := v_p2_code) (f := f_p2_states) (a := xs (k + 1)) hjB
  exact ⟨o1, e1, o2, e2, ⟨⟨a1, a2, a3, a4, a5⟩, ⟨b1, b2, b3, b4', b5⟩, hT, hnr, hre⟩⟩
theorem st_15 (L : Nat) (xs : Nat → Int32) (hL : L ≤ 3072) : St15 NN L xs Inv := by
  intro k v_p1_calendars_made v_p1_calendars_holidayCount f_p1_calendars_rules f_p1_calendars_places f_p1_calendars_holidays v_p1_reader_pending v_p1_reader_length v_p1_reader_at v_p1_reader_number f_p1_reader_text f_p1_reader_jobOfLetter f_p1_reader_owners f_p1_reader_namePlaces f_p1_reader_conditions v_p1_current_starts v_p1_current_time f_p1_current_states f_p1_current_startTimes f_p1_current_loggedJobs f_p1_current_loggedTimes f_p1_kept_sums f_p1_kept_counts v_p1_latestRing_length f_p1_latestRing_row f_p1_ringFinder_queue f_p1_ringFinder_before f_p1_longest_sums f_p1_longest_before v_p1_longest_way_length f_p1_longest_way_row v_p1_net_jobs g_p1_net_numbers f_p1_net_needCounts g_p1_net_needed g_p1_net_conditions f_p1_net_allNeeded v_p1_spare_jobs g_p1_spare_numbers f_p1_spare_needCounts g_p1_spare_needed g_p1_spare_conditions f_p1_spare_allNeeded v_p2_code v_p2_length v_p2_jobs v_p2_newJobs v_p2_made v_p2_days v_p2_now v_p2_started v_p2_ringSize v_p2_place f_p2_text f_p2_names f_p2_calendars f_p2_priorities f_p2_starts f_p2_estimates f_p2_many f_p2_newNames f_p2_numbers f_p2_newMany f_p2_needs f_p2_conditions f_p2_newNeeds f_p2_newConditions f_p2_needPlaces f_p2_rules f_p2_of f_p2_holidays f_p2_states f_p2_ran f_p2_sums f_p2_kept f_p2_startedJob f_p2_startedAt f_p2_ring f_p2_came f_p2_level f_p2_again f_p2_way f_p2_before f_p2_path f_p3 hI hk hx
  clear hx
  have hN : 4000 ≤ NN := Nat.le_refl 4000
  obtain ⟨⟨a1, a2, a3, a4, a5⟩, ⟨b1, b2, b3, b4, b5⟩, hT, hnr, hre⟩ := hI
  have hj : 0 ≤ v_p1_net_jobs.toInt ∧ v_p1_net_jobs.toInt ≤ 26 := ⟨hnr.2.1, hnr.2.2.1⟩
  have hjB : 0 ≤ v_p2_jobs.toInt ∧ v_p2_jobs.toInt ≤ 26 := by rw [← hnr.1]; exact hj
  have hnb := hnr.nb
  have hnc := hnr.2.2.2.1
  have hnd := hnr.2.2.2.2.1
  have hs : 0 ≤ v_p2_started.toInt ∧ v_p2_started.toInt ≤ v_p2_started.toInt := ⟨b3, Int.le_refl _⟩
  have hB : v_p2_started.toInt ≤ 19900 := by omega
  have b4' : 6 * v_p2_started.toInt ≤ 26 * ((k + 6 : Nat) : Int) := by omega
  obtain ⟨o1, e1, h1⟩ := ca_count (made := v_p1_calendars_made) (hc := v_p1_calendars_holidayCount) (st := v_p1_current_starts) (t := v_p1_current_time) (len := v_p1_latestRing_length) (f := f_p1_current_states) (a := xs (k + 1)) hj hN
  obtain ⟨o2, e2, h2⟩ := rf_count (cd := v_p2_code) (made := v_p2_made) (days := v_p2_days) (sd := v_p2_started) (rs := v_p2_ringSize) (now := v_p2_now) (f := f_p2_states) (a := xs (k + 1)) hjB hN
  exact ⟨o1, e1, o2, e2, ⟨⟨a1, a2, a3, a4, a5⟩, ⟨b1, b2, b3, b4', b5⟩, hT, hnr, hre⟩⟩
theorem Inv_0 : Inv 0 (1 : Int32) (0 : Int32) (fun _ => 0) (fun _ => 0) (fun _ => 0) (0 : Int32) (0 : Int32) (0 : Int32) (0 : Int32) (fun _ => 0) (fun _ => 0) (fun _ => 0) (fun _ => 0) (fun _ => 0) (0 : Int32) (0 : Int32) (fun _ => 0) (fun _ => 0) (fun _ => 0) (fun _ => 0) (fun _ => 0) (fun _ => 0) (0 : Int32) (fun _ => 0) (fun _ => 0) (fun _ => 0) (fun _ => 0) (fun _ => 0) (0 : Int32) (fun _ => 0) (0 : Int32) (fun _ _ => 0) (fun _ => 0) (fun _ _ => 0) (fun _ _ => 0) (fun _ => 0) (0 : Int32) (fun _ _ => 0) (fun _ => 0) (fun _ _ => 0) (fun _ _ => 0) (fun _ => 0) (0 : Int32) (0 : Int32) (0 : Int32) (0 : Int32) (0 : Int32) (0 : Int32) (0 : Int64) (0 : Int32) (0 : Int32) (0 : Int32) (fun _ => 0) (fun _ => 0) (fun _ => 0) (fun _ => 0) (fun _ => 0) (fun _ => 0) (fun _ => 0) (fun _ => 0) (fun _ => 0) (fun _ => 0) (fun _ => 0) (fun _ => 0) (fun _ => 0) (fun _ => 0) (fun _ => 0) (fun _ => 0) (fun _ => 0) (fun _ => 0) (fun _ => 0) (fun _ => 0) (fun _ => 0) (fun _ => 0) (fun _ => 0) (fun _ => 0) (fun _ => 0) (fun _ => 0) (fun _ => 0) (fun _ => 0) (fun _ => 0) (fun _ => 0) (fun _ => 0) (fun _ => 0) := by
  have hz : (0 : Int32).toInt = 0 := rfl
  have h1 : (1 : Int32).toInt = 1 := rfl
  refine ⟨⟨by omega, by omega, by omega, fun j _ => ?_, fun j _ k _ => ?_⟩, ⟨by omega, by omega, by omega, by omega, fun j _ => ?_⟩, ⟨0, Nat.zero_le _, hz, hz, fun i hi => absurd hi (Nat.not_lt_zero _)⟩, ⟨rfl, by omega, by omega, fun j _ => ?_, fun j _ k _ => ?_, ⟨by rw [hz]; omega, fun j a1 a2 => ?_⟩, fun j a1 a2 => ?_, fun a b a1 a2 b1 b2 => ?_⟩, ⟨rfl, by omega, by omega, fun i hi => rfl⟩⟩
  · show 0 ≤ (0 : Int32).toInt ∧ (0 : Int32).toInt ≤ 26
    omega
  · show 0 ≤ (0 : Int32).toInt ∧ (0 : Int32).toInt ≤ 26
    omega
  · show 0 ≤ (0 : Int32).toInt ∧ (0 : Int32).toInt ≤ 999999
    omega
  · show 0 ≤ (0 : Int32).toInt ∧ (0 : Int32).toInt ≤ 20
    omega
  · show 0 ≤ (0 : Int32).toInt ∧ (0 : Int32).toInt ≤ 26
    omega
  · rw [hz] at a2; omega
  · rw [hz] at a2; omega
  · rw [hz] at a2; omega
