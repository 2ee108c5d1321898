-- 98.pure: what holds of the fresh objects, and that the first call answers alike
def NN : Nat := 4000
def IA (made hc st : Int32) (lb : Nat → Int32) (spd : Nat → Nat → Int32) : Prop := (1 ≤ made.toInt ∧ made.toInt ≤ 20) ∧ (0 ≤ hc.toInt ∧ hc.toInt ≤ 100) ∧ (0 ≤ st.toInt ∧ st.toInt ≤ 538) ∧ rg lb 27 0 26 ∧ gg spd 27 20 0 26
def IB (k : Nat) (made days sd : Int32) (es : Nat → Int32) : Prop := (0 ≤ made.toInt ∧ made.toInt ≤ 20) ∧ (0 ≤ days.toInt ∧ days.toInt ≤ 100) ∧ 0 ≤ sd.toInt ∧ 6 * sd.toInt ≤ 26 * (k : Int) ∧ rg es 27 0 999999
def IT (lenA lenB : Int32) (tA tB : Nat → Int32) : Prop := ∃ n : Nat, n ≤ 2000 ∧ lenA.toInt = (n : Int) ∧ lenB.toInt = (n : Int) ∧ tr n tA tB
def IF (jobs made hc st t made2 days sd len : Int32) (now : Int64) : Prop := jobs.toInt = 0 ∧ made.toInt = 1 ∧ hc.toInt = 0 ∧ st.toInt = 0 ∧ t.toInt = 0 ∧ made2.toInt = 0 ∧ days.toInt = 0 ∧ sd.toInt = 0 ∧ len.toInt = 0 ∧ now.toInt = 0
def Inv (k : Nat) (v_p1_calendars_made : Int32) (v_p1_calendars_holidayCount : Int32) (f_p1_calendars_rules : Nat → Int32) (f_p1_calendars_places : Nat → Int32) (f_p1_calendars_holidays : Nat → Int32) (v_p1_reader_pending : Int32) (v_p1_reader_length : Int32) (v_p1_reader_at : Int32) (v_p1_reader_number : Int32) (f_p1_reader_text : Nat → Int32) (f_p1_reader_jobOfLetter : Nat → Int32) (f_p1_reader_owners : Nat → Int32) (f_p1_reader_namePlaces : Nat → Int32) (f_p1_reader_conditions : Nat → Int32) (v_p1_current_starts : Int32) (v_p1_current_time : Int32) (f_p1_current_states : Nat → Int32) (f_p1_current_startTimes : Nat → Int32) (f_p1_current_loggedJobs : Nat → Int32) (f_p1_current_loggedTimes : Nat → Int32) (f_p1_kept_sums : Nat → Int64) (f_p1_kept_counts : Nat → Int32) (v_p1_latestRing_length : Int32) (f_p1_latestRing_row : Nat → Int32) (f_p1_ringFinder_queue : Nat → Int32) (f_p1_ringFinder_before : Nat → Int32) (f_p1_longest_sums : Nat → Int32) (f_p1_longest_before : Nat → Int32) (v_p1_longest_way_length : Int32) (f_p1_longest_way_row : Nat → Int32) (v_p1_net_jobs : Int32) (g_p1_net_numbers : Nat → Nat → Int32) (f_p1_net_needCounts : Nat → Int32) (g_p1_net_needed : Nat → Nat → Int32) (g_p1_net_conditions : Nat → Nat → Int32) (f_p1_net_allNeeded : Nat → Int32) (v_p1_spare_jobs : Int32) (g_p1_spare_numbers : Nat → Nat → Int32) (f_p1_spare_needCounts : Nat → Int32) (g_p1_spare_needed : Nat → Nat → Int32) (g_p1_spare_conditions : Nat → Nat → Int32) (f_p1_spare_allNeeded : Nat → Int32) (v_p2_code : Int32) (v_p2_length : Int32) (v_p2_jobs : Int32) (v_p2_newJobs : Int32) (v_p2_made : Int32) (v_p2_days : Int32) (v_p2_now : Int64) (v_p2_started : Int32) (v_p2_ringSize : Int32) (v_p2_place : Int32) (f_p2_text : Nat → Int32) (f_p2_names : Nat → Int32) (f_p2_calendars : Nat → Int32) (f_p2_priorities : Nat → Int32) (f_p2_starts : Nat → Int32) (f_p2_estimates : Nat → Int32) (f_p2_many : Nat → Int32) (f_p2_newNames : Nat → Int32) (f_p2_numbers : Nat → Int32) (f_p2_newMany : Nat → Int32) (f_p2_needs : Nat → Int32) (f_p2_conditions : Nat → Int32) (f_p2_newNeeds : Nat → Int32) (f_p2_newConditions : Nat → Int32) (f_p2_needPlaces : Nat → Int32) (f_p2_rules : Nat → Int32) (f_p2_of : Nat → Int32) (f_p2_holidays : Nat → Int64) (f_p2_states : Nat → Int32) (f_p2_ran : Nat → Int64) (f_p2_sums : Nat → Int64) (f_p2_kept : Nat → Int32) (f_p2_startedJob : Nat → Int32) (f_p2_startedAt : Nat → Int64) (f_p2_ring : Nat → Int32) (f_p2_came : Nat → Int32) (f_p2_level : Nat → Int32) (f_p2_again : Nat → Int32) (f_p2_way : Nat → Int64) (f_p2_before : Nat → Int32) (f_p2_path : Nat → Int32) (f_p3 : Nat → Int64) : Prop := k = 0 → IA v_p1_calendars_made v_p1_calendars_holidayCount v_p1_current_starts f_p1_longest_before g_p1_spare_needed ∧ IB k v_p2_made v_p2_days v_p2_started f_p2_estimates ∧ IT v_p1_reader_length v_p2_length f_p1_reader_text f_p2_text ∧ NR v_p1_net_jobs f_p1_net_needCounts g_p1_net_needed f_p1_net_allNeeded v_p2_jobs f_p2_many f_p2_needs ∧ RE v_p1_latestRing_length f_p1_latestRing_row v_p2_ringSize f_p2_ring ∧ IF v_p1_net_jobs v_p1_calendars_made v_p1_calendars_holidayCount v_p1_current_starts v_p1_current_time v_p2_made v_p2_days v_p2_started v_p1_latestRing_length v_p2_now
theorem st_0 (L : Nat) (xs : Nat → Int32) (hL : L ≤ 6) : St0 NN L xs Inv := by
  intro k v_p1_calendars_made v_p1_calendars_holidayCount f_p1_calendars_rules f_p1_calendars_places f_p1_calendars_holidays v_p1_reader_pending v_p1_reader_length v_p1_reader_at v_p1_reader_number f_p1_reader_text f_p1_reader_jobOfLetter f_p1_reader_owners f_p1_reader_namePlaces f_p1_reader_conditions v_p1_current_starts v_p1_current_time f_p1_current_states f_p1_current_startTimes f_p1_current_loggedJobs f_p1_current_loggedTimes f_p1_kept_sums f_p1_kept_counts v_p1_latestRing_length f_p1_latestRing_row f_p1_ringFinder_queue f_p1_ringFinder_before f_p1_longest_sums f_p1_longest_before v_p1_longest_way_length f_p1_longest_way_row v_p1_net_jobs g_p1_net_numbers f_p1_net_needCounts g_p1_net_needed g_p1_net_conditions f_p1_net_allNeeded v_p1_spare_jobs g_p1_spare_numbers f_p1_spare_needCounts g_p1_spare_needed g_p1_spare_conditions f_p1_spare_allNeeded v_p2_code v_p2_length v_p2_jobs v_p2_newJobs v_p2_made v_p2_days v_p2_now v_p2_started v_p2_ringSize v_p2_place f_p2_text f_p2_names f_p2_calendars f_p2_priorities f_p2_starts f_p2_estimates f_p2_many f_p2_newNames f_p2_numbers f_p2_newMany f_p2_needs f_p2_conditions f_p2_newNeeds f_p2_newConditions f_p2_needPlaces f_p2_rules f_p2_of f_p2_holidays f_p2_states f_p2_ran f_p2_sums f_p2_kept f_p2_startedJob f_p2_startedAt f_p2_ring f_p2_came f_p2_level f_p2_again f_p2_way f_p2_before f_p2_path f_p3 hI hk hx
  clear hx
  have hN : 4000 ≤ NN := Nat.le_refl 4000
  have k0 : k = 0 := by omega
  have kx : ∀ {P : Prop}, k + 6 = 0 → P := fun q => absurd q (by omega)
  obtain ⟨⟨a1, a2, a3, a4, a5⟩, ⟨b1, b2, b3, b4, b5⟩, hT, hnr, hre, fj, fm, fh, fs, ft, gm, gd, gs, fl, gn⟩ := hI k0
  have gj : v_p2_jobs.toInt = 0 := by rw [← hnr.1]; exact fj
  have gl : v_p2_ringSize.toInt = 0 := by rw [← hre.1]; exact fl
  obtain ⟨n, t1, t2, t3, t4⟩ := hT
  obtain ⟨o1, e1, o2, e2, -⟩ := sg_both (N := NN) (cd := v_p2_code) (a := xs (k + 1)) t2 t3 t1 t4
  exact ⟨o1, e1, o2, e2, kx⟩
theorem st_1 (L : Nat) (xs : Nat → Int32) (hL : L ≤ 6) : St1 NN L xs Inv := by
  intro k v_p1_calendars_made v_p1_calendars_holidayCount f_p1_calendars_rules f_p1_calendars_places f_p1_calendars_holidays v_p1_reader_pending v_p1_reader_length v_p1_reader_at v_p1_reader_number f_p1_reader_text f_p1_reader_jobOfLetter f_p1_reader_owners f_p1_reader_namePlaces f_p1_reader_conditions v_p1_current_starts v_p1_current_time f_p1_current_states f_p1_current_startTimes f_p1_current_loggedJobs f_p1_current_loggedTimes f_p1_kept_sums f_p1_kept_counts v_p1_latestRing_length f_p1_latestRing_row f_p1_ringFinder_queue f_p1_ringFinder_before f_p1_longest_sums f_p1_longest_before v_p1_longest_way_length f_p1_longest_way_row v_p1_net_jobs g_p1_net_numbers f_p1_net_needCounts g_p1_net_needed g_p1_net_conditions f_p1_net_allNeeded v_p1_spare_jobs g_p1_spare_numbers f_p1_spare_needCounts g_p1_spare_needed g_p1_spare_conditions f_p1_spare_allNeeded v_p2_code v_p2_length v_p2_jobs v_p2_newJobs v_p2_made v_p2_days v_p2_now v_p2_started v_p2_ringSize v_p2_place f_p2_text f_p2_names f_p2_calendars f_p2_priorities f_p2_starts f_p2_estimates f_p2_many f_p2_newNames f_p2_numbers f_p2_newMany f_p2_needs f_p2_conditions f_p2_newNeeds f_p2_newConditions f_p2_needPlaces f_p2_rules f_p2_of f_p2_holidays f_p2_states f_p2_ran f_p2_sums f_p2_kept f_p2_startedJob f_p2_startedAt f_p2_ring f_p2_came f_p2_level f_p2_again f_p2_way f_p2_before f_p2_path f_p3 hI hk hx
  clear hx
  have hN : 4000 ≤ NN := Nat.le_refl 4000
  have k0 : k = 0 := by omega
  have kx : ∀ {P : Prop}, k + 6 = 0 → P := fun q => absurd q (by omega)
  obtain ⟨⟨a1, a2, a3, a4, a5⟩, ⟨b1, b2, b3, b4, b5⟩, hT, hnr, hre, fj, fm, fh, fs, ft, gm, gd, gs, fl, gn⟩ := hI k0
  have gj : v_p2_jobs.toInt = 0 := by rw [← hnr.1]; exact fj
  have gl : v_p2_ringSize.toInt = 0 := by rw [← hre.1]; exact fl
  obtain ⟨n, t1, t2, t3, t4⟩ := hT
  obtain ⟨o1, e1, o2, e2, q1, -⟩ := rd_both t2 t3 t1 t4 hnr hre a5 b5 hN
  exact ⟨o1, e1, o2, e2, q1, kx⟩
theorem st_2 (L : Nat) (xs : Nat → Int32) (hL : L ≤ 6) : St2 NN L xs Inv := by
  intro k v_p1_calendars_made v_p1_calendars_holidayCount f_p1_calendars_rules f_p1_calendars_places f_p1_calendars_holidays v_p1_reader_pending v_p1_reader_length v_p1_reader_at v_p1_reader_number f_p1_reader_text f_p1_reader_jobOfLetter f_p1_reader_owners f_p1_reader_namePlaces f_p1_reader_conditions v_p1_current_starts v_p1_current_time f_p1_current_states f_p1_current_startTimes f_p1_current_loggedJobs f_p1_current_loggedTimes f_p1_kept_sums f_p1_kept_counts v_p1_latestRing_length f_p1_latestRing_row f_p1_ringFinder_queue f_p1_ringFinder_before f_p1_longest_sums f_p1_longest_before v_p1_longest_way_length f_p1_longest_way_row v_p1_net_jobs g_p1_net_numbers f_p1_net_needCounts g_p1_net_needed g_p1_net_conditions f_p1_net_allNeeded v_p1_spare_jobs g_p1_spare_numbers f_p1_spare_needCounts g_p1_spare_needed g_p1_spare_conditions f_p1_spare_allNeeded v_p2_code v_p2_length v_p2_jobs v_p2_newJobs v_p2_made v_p2_days v_p2_now v_p2_started v_p2_ringSize v_p2_place f_p2_text f_p2_names f_p2_calendars f_p2_priorities f_p2_starts f_p2_estimates f_p2_many f_p2_newNames f_p2_numbers f_p2_newMany f_p2_needs f_p2_conditions f_p2_newNeeds f_p2_newConditions f_p2_needPlaces f_p2_rules f_p2_of f_p2_holidays f_p2_states f_p2_ran f_p2_sums f_p2_kept f_p2_startedJob f_p2_startedAt f_p2_ring f_p2_came f_p2_level f_p2_again f_p2_way f_p2_before f_p2_path f_p3 hI hk hx
  clear hx
  have hN : 4000 ≤ NN := Nat.le_refl 4000
  have k0 : k = 0 := by omega
  have kx : ∀ {P : Prop}, k + 6 = 0 → P := fun q => absurd q (by omega)
  obtain ⟨⟨a1, a2, a3, a4, a5⟩, ⟨b1, b2, b3, b4, b5⟩, hT, hnr, hre, fj, fm, fh, fs, ft, gm, gd, gs, fl, gn⟩ := hI k0
  have gj : v_p2_jobs.toInt = 0 := by rw [← hnr.1]; exact fj
  have gl : v_p2_ringSize.toInt = 0 := by rw [← hre.1]; exact fl
  exact pr2 (fr_calA fm) (fr_calB gm) (fun o1 o2 h1 h2 => ⟨Int32.toInt_inj.mp (by omega), kx⟩)
theorem st_3 (L : Nat) (xs : Nat → Int32) (hL : L ≤ 6) : St3 NN L xs Inv := by
  intro k v_p1_calendars_made v_p1_calendars_holidayCount f_p1_calendars_rules f_p1_calendars_places f_p1_calendars_holidays v_p1_reader_pending v_p1_reader_length v_p1_reader_at v_p1_reader_number f_p1_reader_text f_p1_reader_jobOfLetter f_p1_reader_owners f_p1_reader_namePlaces f_p1_reader_conditions v_p1_current_starts v_p1_current_time f_p1_current_states f_p1_current_startTimes f_p1_current_loggedJobs f_p1_current_loggedTimes f_p1_kept_sums f_p1_kept_counts v_p1_latestRing_length f_p1_latestRing_row f_p1_ringFinder_queue f_p1_ringFinder_before f_p1_longest_sums f_p1_longest_before v_p1_longest_way_length f_p1_longest_way_row v_p1_net_jobs g_p1_net_numbers f_p1_net_needCounts g_p1_net_needed g_p1_net_conditions f_p1_net_allNeeded v_p1_spare_jobs g_p1_spare_numbers f_p1_spare_needCounts g_p1_spare_needed g_p1_spare_conditions f_p1_spare_allNeeded v_p2_code v_p2_length v_p2_jobs v_p2_newJobs v_p2_made v_p2_days v_p2_now v_p2_started v_p2_ringSize v_p2_place f_p2_text f_p2_names f_p2_calendars f_p2_priorities f_p2_starts f_p2_estimates f_p2_many f_p2_newNames f_p2_numbers f_p2_newMany f_p2_needs f_p2_conditions f_p2_newNeeds f_p2_newConditions f_p2_needPlaces f_p2_rules f_p2_of f_p2_holidays f_p2_states f_p2_ran f_p2_sums f_p2_kept f_p2_startedJob f_p2_startedAt f_p2_ring f_p2_came f_p2_level f_p2_again f_p2_way f_p2_before f_p2_path f_p3 hI hk hx
  clear hx
  have hN : 4000 ≤ NN := Nat.le_refl 4000
  have k0 : k = 0 := by omega
  have kx : ∀ {P : Prop}, k + 6 = 0 → P := fun q => absurd q (by omega)
  obtain ⟨⟨a1, a2, a3, a4, a5⟩, ⟨b1, b2, b3, b4, b5⟩, hT, hnr, hre, fj, fm, fh, fs, ft, gm, gd, gs, fl, gn⟩ := hI k0
  have gj : v_p2_jobs.toInt = 0 := by rw [← hnr.1]; exact fj
  have gl : v_p2_ringSize.toInt = 0 := by rw [← hre.1]; exact fl
  exact pr2 (fr_holA fh hN) (fr_holB gd hN) (fun o1 o2 h1 h2 => ⟨Int32.toInt_inj.mp (by omega), kx⟩)
theorem st_4 (L : Nat) (xs : Nat → Int32) (hL : L ≤ 6) : St4 NN L xs Inv := by
  intro k v_p1_calendars_made v_p1_calendars_holidayCount f_p1_calendars_rules f_p1_calendars_places f_p1_calendars_holidays v_p1_reader_pending v_p1_reader_length v_p1_reader_at v_p1_reader_number f_p1_reader_text f_p1_reader_jobOfLetter f_p1_reader_owners f_p1_reader_namePlaces f_p1_reader_conditions v_p1_current_starts v_p1_current_time f_p1_current_states f_p1_current_startTimes f_p1_current_loggedJobs f_p1_current_loggedTimes f_p1_kept_sums f_p1_kept_counts v_p1_latestRing_length f_p1_latestRing_row f_p1_ringFinder_queue f_p1_ringFinder_before f_p1_longest_sums f_p1_longest_before v_p1_longest_way_length f_p1_longest_way_row v_p1_net_jobs g_p1_net_numbers f_p1_net_needCounts g_p1_net_needed g_p1_net_conditions f_p1_net_allNeeded v_p1_spare_jobs g_p1_spare_numbers f_p1_spare_needCounts g_p1_spare_needed g_p1_spare_conditions f_p1_spare_allNeeded v_p2_code v_p2_length v_p2_jobs v_p2_newJobs v_p2_made v_p2_days v_p2_now v_p2_started v_p2_ringSize v_p2_place f_p2_text f_p2_names f_p2_calendars f_p2_priorities f_p2_starts f_p2_estimates f_p2_many f_p2_newNames f_p2_numbers f_p2_newMany f_p2_needs f_p2_conditions f_p2_newNeeds f_p2_newConditions f_p2_needPlaces f_p2_rules f_p2_of f_p2_holidays f_p2_states f_p2_ran f_p2_sums f_p2_kept f_p2_startedJob f_p2_startedAt f_p2_ring f_p2_came f_p2_level f_p2_again f_p2_way f_p2_before f_p2_path f_p3 hI hk hx
  clear hx
  have hN : 4000 ≤ NN := Nat.le_refl 4000
  have k0 : k = 0 := by omega
  have kx : ∀ {P : Prop}, k + 6 = 0 → P := fun q => absurd q (by omega)
  obtain ⟨⟨a1, a2, a3, a4, a5⟩, ⟨b1, b2, b3, b4, b5⟩, hT, hnr, hre, fj, fm, fh, fs, ft, gm, gd, gs, fl, gn⟩ := hI k0
  have gj : v_p2_jobs.toInt = 0 := by rw [← hnr.1]; exact fj
  have gl : v_p2_ringSize.toInt = 0 := by rw [← hre.1]; exact fl
  obtain ⟨o1, e1, o2, e2, q1, -⟩ := nd_both (N := NN) (cd0 := v_p2_code) (q := f_p1_ringFinder_queue) (bf := f_p1_ringFinder_before) (g2 := g_p1_net_conditions) (cnd := f_p2_conditions) (came := f_p2_came) (lev := f_p2_level) (pth := f_p2_path) (x := xs (k + 1)) (y := xs (k + 2)) (c := xs (k + 3)) hnr hre hN
  exact ⟨o1, e1, o2, e2, q1, kx⟩
theorem st_5 (L : Nat) (xs : Nat → Int32) (hL : L ≤ 6) : St5 NN L xs Inv := by
  intro k v_p1_calendars_made v_p1_calendars_holidayCount f_p1_calendars_rules f_p1_calendars_places f_p1_calendars_holidays v_p1_reader_pending v_p1_reader_length v_p1_reader_at v_p1_reader_number f_p1_reader_text f_p1_reader_jobOfLetter f_p1_reader_owners f_p1_reader_namePlaces f_p1_reader_conditions v_p1_current_starts v_p1_current_time f_p1_current_states f_p1_current_startTimes f_p1_current_loggedJobs f_p1_current_loggedTimes f_p1_kept_sums f_p1_kept_counts v_p1_latestRing_length f_p1_latestRing_row f_p1_ringFinder_queue f_p1_ringFinder_before f_p1_longest_sums f_p1_longest_before v_p1_longest_way_length f_p1_longest_way_row v_p1_net_jobs g_p1_net_numbers f_p1_net_needCounts g_p1_net_needed g_p1_net_conditions f_p1_net_allNeeded v_p1_spare_jobs g_p1_spare_numbers f_p1_spare_needCounts g_p1_spare_needed g_p1_spare_conditions f_p1_spare_allNeeded v_p2_code v_p2_length v_p2_jobs v_p2_newJobs v_p2_made v_p2_days v_p2_now v_p2_started v_p2_ringSize v_p2_place f_p2_text f_p2_names f_p2_calendars f_p2_priorities f_p2_starts f_p2_estimates f_p2_many f_p2_newNames f_p2_numbers f_p2_newMany f_p2_needs f_p2_conditions f_p2_newNeeds f_p2_newConditions f_p2_needPlaces f_p2_rules f_p2_of f_p2_holidays f_p2_states f_p2_ran f_p2_sums f_p2_kept f_p2_startedJob f_p2_startedAt f_p2_ring f_p2_came f_p2_level f_p2_again f_p2_way f_p2_before f_p2_path f_p3 hI hk hx
  clear hx
  have hN : 4000 ≤ NN := Nat.le_refl 4000
  have k0 : k = 0 := by omega
  have kx : ∀ {P : Prop}, k + 6 = 0 → P := fun q => absurd q (by omega)
  obtain ⟨⟨a1, a2, a3, a4, a5⟩, ⟨b1, b2, b3, b4, b5⟩, hT, hnr, hre, fj, fm, fh, fs, ft, gm, gd, gs, fl, gn⟩ := hI k0
  have gj : v_p2_jobs.toInt = 0 := by rw [← hnr.1]; exact fj
  have gl : v_p2_ringSize.toInt = 0 := by rw [← hre.1]; exact fl
  exact pr2 (fr_nextA fm hN) (fr_nextB gm hN) (fun o1 o2 h1 h2 => ⟨Int64.toInt_inj.mp (by omega), kx⟩)
theorem st_6 (L : Nat) (xs : Nat → Int32) (hL : L ≤ 6) : St6 NN L xs Inv := by
  intro k v_p1_calendars_made v_p1_calendars_holidayCount f_p1_calendars_rules f_p1_calendars_places f_p1_calendars_holidays v_p1_reader_pending v_p1_reader_length v_p1_reader_at v_p1_reader_number f_p1_reader_text f_p1_reader_jobOfLetter f_p1_reader_owners f_p1_reader_namePlaces f_p1_reader_conditions v_p1_current_starts v_p1_current_time f_p1_current_states f_p1_current_startTimes f_p1_current_loggedJobs f_p1_current_loggedTimes f_p1_kept_sums f_p1_kept_counts v_p1_latestRing_length f_p1_latestRing_row f_p1_ringFinder_queue f_p1_ringFinder_before f_p1_longest_sums f_p1_longest_before v_p1_longest_way_length f_p1_longest_way_row v_p1_net_jobs g_p1_net_numbers f_p1_net_needCounts g_p1_net_needed g_p1_net_conditions f_p1_net_allNeeded v_p1_spare_jobs g_p1_spare_numbers f_p1_spare_needCounts g_p1_spare_needed g_p1_spare_conditions f_p1_spare_allNeeded v_p2_code v_p2_length v_p2_jobs v_p2_newJobs v_p2_made v_p2_days v_p2_now v_p2_started v_p2_ringSize v_p2_place f_p2_text f_p2_names f_p2_calendars f_p2_priorities f_p2_starts f_p2_estimates f_p2_many f_p2_newNames f_p2_numbers f_p2_newMany f_p2_needs f_p2_conditions f_p2_newNeeds f_p2_newConditions f_p2_needPlaces f_p2_rules f_p2_of f_p2_holidays f_p2_states f_p2_ran f_p2_sums f_p2_kept f_p2_startedJob f_p2_startedAt f_p2_ring f_p2_came f_p2_level f_p2_again f_p2_way f_p2_before f_p2_path f_p3 hI hk hx
  clear hx
  have hN : 4000 ≤ NN := Nat.le_refl 4000
  have k0 : k = 0 := by omega
  have kx : ∀ {P : Prop}, k + 6 = 0 → P := fun q => absurd q (by omega)
  obtain ⟨⟨a1, a2, a3, a4, a5⟩, ⟨b1, b2, b3, b4, b5⟩, hT, hnr, hre, fj, fm, fh, fs, ft, gm, gd, gs, fl, gn⟩ := hI k0
  have gj : v_p2_jobs.toInt = 0 := by rw [← hnr.1]; exact fj
  have gl : v_p2_ringSize.toInt = 0 := by rw [← hre.1]; exact fl
  exact pr2 (fr_planA fm fh fj hN) (fr_planB gj hN) (fun o1 o2 h1 h2 => ⟨Int32.toInt_inj.mp (by omega), kx⟩)
theorem st_7 (L : Nat) (xs : Nat → Int32) (hL : L ≤ 6) : St7 NN L xs Inv := by
  intro k v_p1_calendars_made v_p1_calendars_holidayCount f_p1_calendars_rules f_p1_calendars_places f_p1_calendars_holidays v_p1_reader_pending v_p1_reader_length v_p1_reader_at v_p1_reader_number f_p1_reader_text f_p1_reader_jobOfLetter f_p1_reader_owners f_p1_reader_namePlaces f_p1_reader_conditions v_p1_current_starts v_p1_current_time f_p1_current_states f_p1_current_startTimes f_p1_current_loggedJobs f_p1_current_loggedTimes f_p1_kept_sums f_p1_kept_counts v_p1_latestRing_length f_p1_latestRing_row f_p1_ringFinder_queue f_p1_ringFinder_before f_p1_longest_sums f_p1_longest_before v_p1_longest_way_length f_p1_longest_way_row v_p1_net_jobs g_p1_net_numbers f_p1_net_needCounts g_p1_net_needed g_p1_net_conditions f_p1_net_allNeeded v_p1_spare_jobs g_p1_spare_numbers f_p1_spare_needCounts g_p1_spare_needed g_p1_spare_conditions f_p1_spare_allNeeded v_p2_code v_p2_length v_p2_jobs v_p2_newJobs v_p2_made v_p2_days v_p2_now v_p2_started v_p2_ringSize v_p2_place f_p2_text f_p2_names f_p2_calendars f_p2_priorities f_p2_starts f_p2_estimates f_p2_many f_p2_newNames f_p2_numbers f_p2_newMany f_p2_needs f_p2_conditions f_p2_newNeeds f_p2_newConditions f_p2_needPlaces f_p2_rules f_p2_of f_p2_holidays f_p2_states f_p2_ran f_p2_sums f_p2_kept f_p2_startedJob f_p2_startedAt f_p2_ring f_p2_came f_p2_level f_p2_again f_p2_way f_p2_before f_p2_path f_p3 hI hk hx
  clear hx
  have hN : 4000 ≤ NN := Nat.le_refl 4000
  have k0 : k = 0 := by omega
  have kx : ∀ {P : Prop}, k + 6 = 0 → P := fun q => absurd q (by omega)
  obtain ⟨⟨a1, a2, a3, a4, a5⟩, ⟨b1, b2, b3, b4, b5⟩, hT, hnr, hre, fj, fm, fh, fs, ft, gm, gd, gs, fl, gn⟩ := hI k0
  have gj : v_p2_jobs.toInt = 0 := by rw [← hnr.1]; exact fj
  have gl : v_p2_ringSize.toInt = 0 := by rw [← hre.1]; exact fl
  exact pr2 (fr_eventA ft fj hN) (fr_eventB gn gj hN) (fun o1 o2 h1 h2 => ⟨Int32.toInt_inj.mp (by omega), kx⟩)
theorem st_8 (L : Nat) (xs : Nat → Int32) (hL : L ≤ 6) : St8 NN L xs Inv := by
  intro k v_p1_calendars_made v_p1_calendars_holidayCount f_p1_calendars_rules f_p1_calendars_places f_p1_calendars_holidays v_p1_reader_pending v_p1_reader_length v_p1_reader_at v_p1_reader_number f_p1_reader_text f_p1_reader_jobOfLetter f_p1_reader_owners f_p1_reader_namePlaces f_p1_reader_conditions v_p1_current_starts v_p1_current_time f_p1_current_states f_p1_current_startTimes f_p1_current_loggedJobs f_p1_current_loggedTimes f_p1_kept_sums f_p1_kept_counts v_p1_latestRing_length f_p1_latestRing_row f_p1_ringFinder_queue f_p1_ringFinder_before f_p1_longest_sums f_p1_longest_before v_p1_longest_way_length f_p1_longest_way_row v_p1_net_jobs g_p1_net_numbers f_p1_net_needCounts g_p1_net_needed g_p1_net_conditions f_p1_net_allNeeded v_p1_spare_jobs g_p1_spare_numbers f_p1_spare_needCounts g_p1_spare_needed g_p1_spare_conditions f_p1_spare_allNeeded v_p2_code v_p2_length v_p2_jobs v_p2_newJobs v_p2_made v_p2_days v_p2_now v_p2_started v_p2_ringSize v_p2_place f_p2_text f_p2_names f_p2_calendars f_p2_priorities f_p2_starts f_p2_estimates f_p2_many f_p2_newNames f_p2_numbers f_p2_newMany f_p2_needs f_p2_conditions f_p2_newNeeds f_p2_newConditions f_p2_needPlaces f_p2_rules f_p2_of f_p2_holidays f_p2_states f_p2_ran f_p2_sums f_p2_kept f_p2_startedJob f_p2_startedAt f_p2_ring f_p2_came f_p2_level f_p2_again f_p2_way f_p2_before f_p2_path f_p3 hI hk hx
  clear hx
  have hN : 4000 ≤ NN := Nat.le_refl 4000
  have k0 : k = 0 := by omega
  have kx : ∀ {P : Prop}, k + 6 = 0 → P := fun q => absurd q (by omega)
  obtain ⟨⟨a1, a2, a3, a4, a5⟩, ⟨b1, b2, b3, b4, b5⟩, hT, hnr, hre, fj, fm, fh, fs, ft, gm, gd, gs, fl, gn⟩ := hI k0
  have gj : v_p2_jobs.toInt = 0 := by rw [← hnr.1]; exact fj
  have gl : v_p2_ringSize.toInt = 0 := by rw [← hre.1]; exact fl
  exact pr2 (fr_startedA fs) (fr_startedB gs) (fun o1 o2 h1 h2 => ⟨Int32.toInt_inj.mp (by omega), kx⟩)
theorem st_9 (L : Nat) (xs : Nat → Int32) (hL : L ≤ 6) : St9 NN L xs Inv := by
  intro k v_p1_calendars_made v_p1_calendars_holidayCount f_p1_calendars_rules f_p1_calendars_places f_p1_calendars_holidays v_p1_reader_pending v_p1_reader_length v_p1_reader_at v_p1_reader_number f_p1_reader_text f_p1_reader_jobOfLetter f_p1_reader_owners f_p1_reader_namePlaces f_p1_reader_conditions v_p1_current_starts v_p1_current_time f_p1_current_states f_p1_current_startTimes f_p1_current_loggedJobs f_p1_current_loggedTimes f_p1_kept_sums f_p1_kept_counts v_p1_latestRing_length f_p1_latestRing_row f_p1_ringFinder_queue f_p1_ringFinder_before f_p1_longest_sums f_p1_longest_before v_p1_longest_way_length f_p1_longest_way_row v_p1_net_jobs g_p1_net_numbers f_p1_net_needCounts g_p1_net_needed g_p1_net_conditions f_p1_net_allNeeded v_p1_spare_jobs g_p1_spare_numbers f_p1_spare_needCounts g_p1_spare_needed g_p1_spare_conditions f_p1_spare_allNeeded v_p2_code v_p2_length v_p2_jobs v_p2_newJobs v_p2_made v_p2_days v_p2_now v_p2_started v_p2_ringSize v_p2_place f_p2_text f_p2_names f_p2_calendars f_p2_priorities f_p2_starts f_p2_estimates f_p2_many f_p2_newNames f_p2_numbers f_p2_newMany f_p2_needs f_p2_conditions f_p2_newNeeds f_p2_newConditions f_p2_needPlaces f_p2_rules f_p2_of f_p2_holidays f_p2_states f_p2_ran f_p2_sums f_p2_kept f_p2_startedJob f_p2_startedAt f_p2_ring f_p2_came f_p2_level f_p2_again f_p2_way f_p2_before f_p2_path f_p3 hI hk hx
  clear hx
  have hN : 4000 ≤ NN := Nat.le_refl 4000
  have k0 : k = 0 := by omega
  have kx : ∀ {P : Prop}, k + 6 = 0 → P := fun q => absurd q (by omega)
  obtain ⟨⟨a1, a2, a3, a4, a5⟩, ⟨b1, b2, b3, b4, b5⟩, hT, hnr, hre, fj, fm, fh, fs, ft, gm, gd, gs, fl, gn⟩ := hI k0
  have gj : v_p2_jobs.toInt = 0 := by rw [← hnr.1]; exact fj
  have gl : v_p2_ringSize.toInt = 0 := by rw [← hre.1]; exact fl
  exact pr2 (fr_rerunA fj) (fr_rerunB gj) (fun o1 o2 h1 h2 => ⟨Int32.toInt_inj.mp (by omega), kx⟩)
theorem st_10 (L : Nat) (xs : Nat → Int32) (hL : L ≤ 6) : St10 NN L xs Inv := by
  intro k v_p1_calendars_made v_p1_calendars_holidayCount f_p1_calendars_rules f_p1_calendars_places f_p1_calendars_holidays v_p1_reader_pending v_p1_reader_length v_p1_reader_at v_p1_reader_number f_p1_reader_text f_p1_reader_jobOfLetter f_p1_reader_owners f_p1_reader_namePlaces f_p1_reader_conditions v_p1_current_starts v_p1_current_time f_p1_current_states f_p1_current_startTimes f_p1_current_loggedJobs f_p1_current_loggedTimes f_p1_kept_sums f_p1_kept_counts v_p1_latestRing_length f_p1_latestRing_row f_p1_ringFinder_queue f_p1_ringFinder_before f_p1_longest_sums f_p1_longest_before v_p1_longest_way_length f_p1_longest_way_row v_p1_net_jobs g_p1_net_numbers f_p1_net_needCounts g_p1_net_needed g_p1_net_conditions f_p1_net_allNeeded v_p1_spare_jobs g_p1_spare_numbers f_p1_spare_needCounts g_p1_spare_needed g_p1_spare_conditions f_p1_spare_allNeeded v_p2_code v_p2_length v_p2_jobs v_p2_newJobs v_p2_made v_p2_days v_p2_now v_p2_started v_p2_ringSize v_p2_place f_p2_text f_p2_names f_p2_calendars f_p2_priorities f_p2_starts f_p2_estimates f_p2_many f_p2_newNames f_p2_numbers f_p2_newMany f_p2_needs f_p2_conditions f_p2_newNeeds f_p2_newConditions f_p2_needPlaces f_p2_rules f_p2_of f_p2_holidays f_p2_states f_p2_ran f_p2_sums f_p2_kept f_p2_startedJob f_p2_startedAt f_p2_ring f_p2_came f_p2_level f_p2_again f_p2_way f_p2_before f_p2_path f_p3 hI hk hx
  clear hx
  have hN : 4000 ≤ NN := Nat.le_refl 4000
  have k0 : k = 0 := by omega
  have kx : ∀ {P : Prop}, k + 6 = 0 → P := fun q => absurd q (by omega)
  obtain ⟨⟨a1, a2, a3, a4, a5⟩, ⟨b1, b2, b3, b4, b5⟩, hT, hnr, hre, fj, fm, fh, fs, ft, gm, gd, gs, fl, gn⟩ := hI k0
  have gj : v_p2_jobs.toInt = 0 := by rw [← hnr.1]; exact fj
  have gl : v_p2_ringSize.toInt = 0 := by rw [← hre.1]; exact fl
  have hrl : 0 ≤ v_p1_latestRing_length.toInt ∧ v_p1_latestRing_length.toInt ≤ 26 := ⟨hre.2.1, hre.2.2.1⟩
  refine pr2 (ca_ring hrl) (rf_ring (by rw [← hre.1]; exact hrl)) (fun o1 o2 h1 h2 => ⟨?_, kx⟩)
  rw [h1, h2, if_neg (by omega), if_neg (by omega)]
theorem st_11 (L : Nat) (xs : Nat → Int32) (hL : L ≤ 6) : St11 NN L xs Inv := by
  intro k v_p1_calendars_made v_p1_calendars_holidayCount f_p1_calendars_rules f_p1_calendars_places f_p1_calendars_holidays v_p1_reader_pending v_p1_reader_length v_p1_reader_at v_p1_reader_number f_p1_reader_text f_p1_reader_jobOfLetter f_p1_reader_owners f_p1_reader_namePlaces f_p1_reader_conditions v_p1_current_starts v_p1_current_time f_p1_current_states f_p1_current_startTimes f_p1_current_loggedJobs f_p1_current_loggedTimes f_p1_kept_sums f_p1_kept_counts v_p1_latestRing_length f_p1_latestRing_row f_p1_ringFinder_queue f_p1_ringFinder_before f_p1_longest_sums f_p1_longest_before v_p1_longest_way_length f_p1_longest_way_row v_p1_net_jobs g_p1_net_numbers f_p1_net_needCounts g_p1_net_needed g_p1_net_conditions f_p1_net_allNeeded v_p1_spare_jobs g_p1_spare_numbers f_p1_spare_needCounts g_p1_spare_needed g_p1_spare_conditions f_p1_spare_allNeeded v_p2_code v_p2_length v_p2_jobs v_p2_newJobs v_p2_made v_p2_days v_p2_now v_p2_started v_p2_ringSize v_p2_place f_p2_text f_p2_names f_p2_calendars f_p2_priorities f_p2_starts f_p2_estimates f_p2_many f_p2_newNames f_p2_numbers f_p2_newMany f_p2_needs f_p2_conditions f_p2_newNeeds f_p2_newConditions f_p2_needPlaces f_p2_rules f_p2_of f_p2_holidays f_p2_states f_p2_ran f_p2_sums f_p2_kept f_p2_startedJob f_p2_startedAt f_p2_ring f_p2_came f_p2_level f_p2_again f_p2_way f_p2_before f_p2_path f_p3 hI hk hx
  clear hx
  have hN : 4000 ≤ NN := Nat.le_refl 4000
  have k0 : k = 0 := by omega
  have kx : ∀ {P : Prop}, k + 6 = 0 → P := fun q => absurd q (by omega)
  obtain ⟨⟨a1, a2, a3, a4, a5⟩, ⟨b1, b2, b3, b4, b5⟩, hT, hnr, hre, fj, fm, fh, fs, ft, gm, gd, gs, fl, gn⟩ := hI k0
  have gj : v_p2_jobs.toInt = 0 := by rw [← hnr.1]; exact fj
  have gl : v_p2_ringSize.toInt = 0 := by rw [← hre.1]; exact fl
  exact pr2 (fr_critA fj hN) (fr_critB gj hN) (fun o1 o2 h1 h2 => ⟨Int32.toInt_inj.mp (by omega), kx⟩)
theorem st_12 (L : Nat) (xs : Nat → Int32) (hL : L ≤ 6) : St12 NN L xs Inv := by
  intro k v_p1_calendars_made v_p1_calendars_holidayCount f_p1_calendars_rules f_p1_calendars_places f_p1_calendars_holidays v_p1_reader_pending v_p1_reader_length v_p1_reader_at v_p1_reader_number f_p1_reader_text f_p1_reader_jobOfLetter f_p1_reader_owners f_p1_reader_namePlaces f_p1_reader_conditions v_p1_current_starts v_p1_current_time f_p1_current_states f_p1_current_startTimes f_p1_current_loggedJobs f_p1_current_loggedTimes f_p1_kept_sums f_p1_kept_counts v_p1_latestRing_length f_p1_latestRing_row f_p1_ringFinder_queue f_p1_ringFinder_before f_p1_longest_sums f_p1_longest_before v_p1_longest_way_length f_p1_longest_way_row v_p1_net_jobs g_p1_net_numbers f_p1_net_needCounts g_p1_net_needed g_p1_net_conditions f_p1_net_allNeeded v_p1_spare_jobs g_p1_spare_numbers f_p1_spare_needCounts g_p1_spare_needed g_p1_spare_conditions f_p1_spare_allNeeded v_p2_code v_p2_length v_p2_jobs v_p2_newJobs v_p2_made v_p2_days v_p2_now v_p2_started v_p2_ringSize v_p2_place f_p2_text f_p2_names f_p2_calendars f_p2_priorities f_p2_starts f_p2_estimates f_p2_many f_p2_newNames f_p2_numbers f_p2_newMany f_p2_needs f_p2_conditions f_p2_newNeeds f_p2_newConditions f_p2_needPlaces f_p2_rules f_p2_of f_p2_holidays f_p2_states f_p2_ran f_p2_sums f_p2_kept f_p2_startedJob f_p2_startedAt f_p2_ring f_p2_came f_p2_level f_p2_again f_p2_way f_p2_before f_p2_path f_p3 hI hk hx
  clear hx
  have hN : 4000 ≤ NN := Nat.le_refl 4000
  have k0 : k = 0 := by omega
  have kx : ∀ {P : Prop}, k + 6 = 0 → P := fun q => absurd q (by omega)
  obtain ⟨⟨a1, a2, a3, a4, a5⟩, ⟨b1, b2, b3, b4, b5⟩, hT, hnr, hre, fj, fm, fh, fs, ft, gm, gd, gs, fl, gn⟩ := hI k0
  have gj : v_p2_jobs.toInt = 0 := by rw [← hnr.1]; exact fj
  have gl : v_p2_ringSize.toInt = 0 := by rw [← hre.1]; exact fl
  obtain ⟨o, e, h⟩ := fr_meanA (N := NN) (l := f_p1_kept_sums) (f := f_p1_kept_counts) (a := xs (k + 1)) (b := xs (k + 2)) fj
  obtain ⟨o1, e1, h1, h2⟩ := fr_meanB (N := NN) (cd := v_p2_code) (l := f_p2_sums) (f := f_p2_kept) (a := xs (k + 1)) (b := xs (k + 2)) gj
  refine ⟨0, vp_updL f_p3 0 o, Or.inl ⟨o, e, rfl, rfl⟩, o1, e1, o1.2, rfl, h2, fun _ => ?_, kx⟩
  have hu : vp_updL f_p3 0 o 0 = o := by simp [vp_updL]
  rw [hu]
  exact Int64.toInt_inj.mp (by omega)
theorem st_13 (L : Nat) (xs : Nat → Int32) (hL : L ≤ 6) : St13 NN L xs Inv := by
  intro k v_p1_calendars_made v_p1_calendars_holidayCount f_p1_calendars_rules f_p1_calendars_places f_p1_calendars_holidays v_p1_reader_pending v_p1_reader_length v_p1_reader_at v_p1_reader_number f_p1_reader_text f_p1_reader_jobOfLetter f_p1_reader_owners f_p1_reader_namePlaces f_p1_reader_conditions v_p1_current_starts v_p1_current_time f_p1_current_states f_p1_current_startTimes f_p1_current_loggedJobs f_p1_current_loggedTimes f_p1_kept_sums f_p1_kept_counts v_p1_latestRing_length f_p1_latestRing_row f_p1_ringFinder_queue f_p1_ringFinder_before f_p1_longest_sums f_p1_longest_before v_p1_longest_way_length f_p1_longest_way_row v_p1_net_jobs g_p1_net_numbers f_p1_net_needCounts g_p1_net_needed g_p1_net_conditions f_p1_net_allNeeded v_p1_spare_jobs g_p1_spare_numbers f_p1_spare_needCounts g_p1_spare_needed g_p1_spare_conditions f_p1_spare_allNeeded v_p2_code v_p2_length v_p2_jobs v_p2_newJobs v_p2_made v_p2_days v_p2_now v_p2_started v_p2_ringSize v_p2_place f_p2_text f_p2_names f_p2_calendars f_p2_priorities f_p2_starts f_p2_estimates f_p2_many f_p2_newNames f_p2_numbers f_p2_newMany f_p2_needs f_p2_conditions f_p2_newNeeds f_p2_newConditions f_p2_needPlaces f_p2_rules f_p2_of f_p2_holidays f_p2_states f_p2_ran f_p2_sums f_p2_kept f_p2_startedJob f_p2_startedAt f_p2_ring f_p2_came f_p2_level f_p2_again f_p2_way f_p2_before f_p2_path f_p3 hI hk hx
  clear hx
  have hN : 4000 ≤ NN := Nat.le_refl 4000
  have k0 : k = 0 := by omega
  have kx : ∀ {P : Prop}, k + 6 = 0 → P := fun q => absurd q (by omega)
  obtain ⟨⟨a1, a2, a3, a4, a5⟩, ⟨b1, b2, b3, b4, b5⟩, hT, hnr, hre, fj, fm, fh, fs, ft, gm, gd, gs, fl, gn⟩ := hI k0
  have gj : v_p2_jobs.toInt = 0 := by rw [← hnr.1]; exact fj
  have gl : v_p2_ringSize.toInt = 0 := by rw [← hre.1]; exact fl
  exact pr2 (fr_lateA fj hN) (fr_lateB gj hN) (fun o1 o2 h1 h2 => ⟨Int32.toInt_inj.mp (by omega), kx⟩)
theorem st_14 (L : Nat) (xs : Nat → Int32) (hL : L ≤ 6) : St14 NN L xs Inv := by
  intro k v_p1_calendars_made v_p1_calendars_holidayCount f_p1_calendars_rules f_p1_calendars_places f_p1_calendars_holidays v_p1_reader_pending v_p1_reader_length v_p1_reader_at v_p1_reader_number f_p1_reader_text f_p1_reader_jobOfLetter f_p1_reader_owners f_p1_reader_namePlaces f_p1_reader_conditions v_p1_current_starts v_p1_current_time f_p1_current_states f_p1_current_startTimes f_p1_current_loggedJobs f_p1_current_loggedTimes f_p1_kept_sums f_p1_kept_counts v_p1_latestRing_length f_p1_latestRing_row f_p1_ringFinder_queue f_p1_ringFinder_before f_p1_longest_sums f_p1_longest_before v_p1_longest_way_length f_p1_longest_way_row v_p1_net_jobs g_p1_net_numbers f_p1_net_needCounts g_p1_net_needed g_p1_net_conditions f_p1_net_allNeeded v_p1_spare_jobs g_p1_spare_numbers f_p1_spare_needCounts g_p1_spare_needed g_p1_spare_conditions f_p1_spare_allNeeded v_p2_code v_p2_length v_p2_jobs v_p2_newJobs v_p2_made v_p2_days v_p2_now v_p2_started v_p2_ringSize v_p2_place f_p2_text f_p2_names f_p2_calendars f_p2_priorities f_p2_starts f_p2_estimates f_p2_many f_p2_newNames f_p2_numbers f_p2_newMany f_p2_needs f_p2_conditions f_p2_newNeeds f_p2_newConditions f_p2_needPlaces f_p2_rules f_p2_of f_p2_holidays f_p2_states f_p2_ran f_p2_sums f_p2_kept f_p2_startedJob f_p2_startedAt f_p2_ring f_p2_came f_p2_level f_p2_again f_p2_way f_p2_before f_p2_path f_p3 hI hk hx
  clear hx
  have hN : 4000 ≤ NN := Nat.le_refl 4000
  have k0 : k = 0 := by omega
  have kx : ∀ {P : Prop}, k + 6 = 0 → P := fun q => absurd q (by omega)
  obtain ⟨⟨a1, a2, a3, a4, a5⟩, ⟨b1, b2, b3, b4, b5⟩, hT, hnr, hre, fj, fm, fh, fs, ft, gm, gd, gs, fl, gn⟩ := hI k0
  have gj : v_p2_jobs.toInt = 0 := by rw [← hnr.1]; exact fj
  have gl : v_p2_ringSize.toInt = 0 := by rw [← hre.1]; exact fl
  exact pr2 (fr_stateA fj) (fr_stateB gj) (fun o1 o2 h1 h2 => ⟨Int32.toInt_inj.mp (by omega), kx⟩)
theorem st_15 (L : Nat) (xs : Nat → Int32) (hL : L ≤ 6) : St15 NN L xs Inv := by
  intro k v_p1_calendars_made v_p1_calendars_holidayCount f_p1_calendars_rules f_p1_calendars_places f_p1_calendars_holidays v_p1_reader_pending v_p1_reader_length v_p1_reader_at v_p1_reader_number f_p1_reader_text f_p1_reader_jobOfLetter f_p1_reader_owners f_p1_reader_namePlaces f_p1_reader_conditions v_p1_current_starts v_p1_current_time f_p1_current_states f_p1_current_startTimes f_p1_current_loggedJobs f_p1_current_loggedTimes f_p1_kept_sums f_p1_kept_counts v_p1_latestRing_length f_p1_latestRing_row f_p1_ringFinder_queue f_p1_ringFinder_before f_p1_longest_sums f_p1_longest_before v_p1_longest_way_length f_p1_longest_way_row v_p1_net_jobs g_p1_net_numbers f_p1_net_needCounts g_p1_net_needed g_p1_net_conditions f_p1_net_allNeeded v_p1_spare_jobs g_p1_spare_numbers f_p1_spare_needCounts g_p1_spare_needed g_p1_spare_conditions f_p1_spare_allNeeded v_p2_code v_p2_length v_p2_jobs v_p2_newJobs v_p2_made v_p2_days v_p2_now v_p2_started v_p2_ringSize v_p2_place f_p2_text f_p2_names f_p2_calendars f_p2_priorities f_p2_starts f_p2_estimates f_p2_many f_p2_newNames f_p2_numbers f_p2_newMany f_p2_needs f_p2_conditions f_p2_newNeeds f_p2_newConditions f_p2_needPlaces f_p2_rules f_p2_of f_p2_holidays f_p2_states f_p2_ran f_p2_sums f_p2_kept f_p2_startedJob f_p2_startedAt f_p2_ring f_p2_came f_p2_level f_p2_again f_p2_way f_p2_before f_p2_path f_p3 hI hk hx
  clear hx
  have hN : 4000 ≤ NN := Nat.le_refl 4000
  have k0 : k = 0 := by omega
  have kx : ∀ {P : Prop}, k + 6 = 0 → P := fun q => absurd q (by omega)
  obtain ⟨⟨a1, a2, a3, a4, a5⟩, ⟨b1, b2, b3, b4, b5⟩, hT, hnr, hre, fj, fm, fh, fs, ft, gm, gd, gs, fl, gn⟩ := hI k0
  have gj : v_p2_jobs.toInt = 0 := by rw [← hnr.1]; exact fj
  have gl : v_p2_ringSize.toInt = 0 := by rw [← hre.1]; exact fl
  exact pr2 (fr_countA fm fh fs ft fl fj hN) (fr_countB gm gd gs gn gl gj hN) (fun o1 o2 h1 h2 => ⟨Int32.toInt_inj.mp (by omega), kx⟩)
theorem Inv_0 : Inv 0 (1 : Int32) (0 : Int32) (fun _ => 0) (fun _ => 0) (fun _ => 0) (0 : Int32) (0 : Int32) (0 : Int32) (0 : Int32) (fun _ => 0) (fun _ => 0) (fun _ => 0) (fun _ => 0) (fun _ => 0) (0 : Int32) (0 : Int32) (fun _ => 0) (fun _ => 0) (fun _ => 0) (fun _ => 0) (fun _ => 0) (fun _ => 0) (0 : Int32) (fun _ => 0) (fun _ => 0) (fun _ => 0) (fun _ => 0) (fun _ => 0) (0 : Int32) (fun _ => 0) (0 : Int32) (fun _ _ => 0) (fun _ => 0) (fun _ _ => 0) (fun _ _ => 0) (fun _ => 0) (0 : Int32) (fun _ _ => 0) (fun _ => 0) (fun _ _ => 0) (fun _ _ => 0) (fun _ => 0) (0 : Int32) (0 : Int32) (0 : Int32) (0 : Int32) (0 : Int32) (0 : Int32) (0 : Int64) (0 : Int32) (0 : Int32) (0 : Int32) (fun _ => 0) (fun _ => 0) (fun _ => 0) (fun _ => 0) (fun _ => 0) (fun _ => 0) (fun _ => 0) (fun _ => 0) (fun _ => 0) (fun _ => 0) (fun _ => 0) (fun _ => 0) (fun _ => 0) (fun _ => 0) (fun _ => 0) (fun _ => 0) (fun _ => 0) (fun _ => 0) (fun _ => 0) (fun _ => 0) (fun _ => 0) (fun _ => 0) (fun _ => 0) (fun _ => 0) (fun _ => 0) (fun _ => 0) (fun _ => 0) (fun _ => 0) (fun _ => 0) (fun _ => 0) (fun _ => 0) (fun _ => 0) := by
  intro _
  have hz : (0 : Int32).toInt = 0 := rfl
  have h1 : (1 : Int32).toInt = 1 := rfl
  refine ⟨⟨by omega, by omega, by omega, fun j _ => ?_, fun j _ k _ => ?_⟩, ⟨by omega, by omega, by omega, by omega, fun j _ => ?_⟩, ⟨0, Nat.zero_le _, hz, hz, fun i hi => absurd hi (Nat.not_lt_zero _)⟩, ⟨rfl, by omega, by omega, fun j _ => ?_, fun j _ k _ => ?_, ⟨by rw [hz]; omega, fun j a1 a2 => ?_⟩, fun j a1 a2 => ?_, fun a b a1 a2 b1 b2 => ?_⟩, ⟨rfl, by omega, by omega, fun i hi => rfl⟩, rfl, rfl, rfl, rfl, rfl, rfl, rfl, rfl, rfl, rfl⟩
  · show 0 ≤ (0 : Int32).toInt ∧ (0 : Int32).toInt ≤ 26
    omega
  · show 0 ≤ (0 : Int32).toInt ∧ (0 : Int32).toInt ≤ 26
    omega
  · show 0 ≤ (0 : Int32).toInt ∧ (0 : Int32).toInt ≤ 999999
    omega
  · show 0 ≤ (0 : Int32).toInt ∧ (0 : Int32).toInt ≤ 20
    omega
  · show 0 ≤ (0 : Int32).toInt ∧ (0 : Int32).toInt ≤ 26
    omega
  · rw [hz] at a2; omega
  · rw [hz] at a2; omega
  · rw [hz] at a2; omega
