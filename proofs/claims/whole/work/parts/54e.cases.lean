theorem st_law16 (x_x_station_sheet_cells : Nat → Int32) (x_x_station_sheet_threshold : Int32) (x_x_station_climate_weights : Nat → Int32) (x_x_station_climate_present : Int32) (x_x_station_forecasts_days : Nat → Int32) (x_x_station_forecasts_weathers : Nat → Int32) (x_x_station_forecasts_count : Int32) (x_x_station_forecasts_scored : Int32) (x_x_station_forecasts_errors : Int32) (x_x_station_forecasts_hits : Int32) (x_x_station_day : Int32) (x_x_snapshot_sheet_cells : Nat → Int32) (x_x_snapshot_sheet_threshold : Int32) (x_x_snapshot_climate_weights : Nat → Int32) (x_x_snapshot_climate_present : Int32) (x_x_snapshot_forecasts_days : Nat → Int32) (x_x_snapshot_forecasts_weathers : Nat → Int32) (x_x_snapshot_forecasts_count : Int32) (x_x_snapshot_forecasts_scored : Int32) (x_x_snapshot_forecasts_errors : Int32) (x_x_snapshot_forecasts_hits : Int32) (x_x_snapshot_day : Int32) (x_x_hasSnapshot : Int32) (x_x_history_ring : Nat → StT) (x_x_history_next : Int32) (x_x_history_count : Int32) (x_x_text_signs : Nat → Int32) (x_x_text_length : Int32) (x_x_line_signs : Nat → Int32) (x_x_line_length : Int32) (x_x_malformedAt : Int32) (x_x_failedAt : Int32) (x_m_g : Nat → Int32) (x_m_kept : Nat → Int32) (x_m_saved : Nat → Int32) (x_m_isSaved : Int32) (x_m_changes : Int32) (x_m_isWithin : Int32) (x_m_code : Int32) (x_m_input : Nat → Int32) (x_m_length : Int32) (x_m_fault : Int32) (x_m_failed : Int32) (x_m_signs : Nat → Int32) (x_m_signMany : Int32) (x_out : Nat → Int64) (xs : Nat → Int32) (L j : Nat) (hj : 5 * j + 5 ≤ L) (hL : L ≤ 2560) (hR : Rel (x_x_station_sheet_cells, x_x_station_sheet_threshold, x_x_station_climate_weights, x_x_station_climate_present, x_x_station_forecasts_days, x_x_station_forecasts_weathers, x_x_station_forecasts_count, x_x_station_forecasts_scored, x_x_station_forecasts_errors, x_x_station_forecasts_hits, x_x_station_day) (x_x_snapshot_sheet_cells, x_x_snapshot_sheet_threshold, x_x_snapshot_climate_weights, x_x_snapshot_climate_present, x_x_snapshot_forecasts_days, x_x_snapshot_forecasts_weathers, x_x_snapshot_forecasts_count, x_x_snapshot_forecasts_scored, x_x_snapshot_forecasts_errors, x_x_snapshot_forecasts_hits, x_x_snapshot_day) x_x_hasSnapshot x_x_history_ring x_x_history_next x_x_history_count x_x_text_signs x_x_text_length x_x_line_signs x_x_line_length x_x_malformedAt x_x_failedAt x_m_g x_m_kept x_m_saved x_m_isSaved x_m_changes x_m_isWithin x_m_input x_m_length x_m_fault x_m_failed x_m_signs x_m_signMany) : ∃ res : (Nat → Int32) × (Nat → StT) × Int32 × Int32 × (Nat → Int32) × (Nat → Int32) × Int32 × Int32 × (Nat → Int64), f_law16 x_x_station_sheet_cells x_x_station_sheet_threshold x_x_station_climate_weights x_x_station_climate_present x_x_station_forecasts_days x_x_station_forecasts_weathers x_x_station_forecasts_count x_x_station_forecasts_scored x_x_station_forecasts_errors x_x_station_forecasts_hits x_x_station_day x_x_history_ring x_x_history_next x_x_history_count x_m_g x_m_kept x_m_changes x_m_isWithin x_m_code x_out xs L (nI (5 * j)) = some res ∧ Rel (x_x_station_sheet_cells, x_x_station_sheet_threshold, res.1, x_x_station_climate_present, x_x_station_forecasts_days, x_x_station_forecasts_weathers, x_x_station_forecasts_count, x_x_station_forecasts_scored, x_x_station_forecasts_errors, x_x_station_forecasts_hits, x_x_station_day) (x_x_snapshot_sheet_cells, x_x_snapshot_sheet_threshold, x_x_snapshot_climate_weights, x_x_snapshot_climate_present, x_x_snapshot_forecasts_days, x_x_snapshot_forecasts_weathers, x_x_snapshot_forecasts_count, x_x_snapshot_forecasts_scored, x_x_snapshot_forecasts_errors, x_x_snapshot_forecasts_hits, x_x_snapshot_day) x_x_hasSnapshot res.2.1 res.2.2.1 res.2.2.2.1 x_x_text_signs x_x_text_length x_x_line_signs x_x_line_length x_x_malformedAt x_x_failedAt res.2.2.2.2.1 res.2.2.2.2.2.1 x_m_saved x_m_isSaved res.2.2.2.2.2.2.1 x_m_isWithin x_m_input x_m_length x_m_fault x_m_failed x_m_signs x_m_signMany := by
  have hS := hR.1
  obtain ⟨r1, r2, r3, r4, r5, r6, r7, r8, r9, r10, r11, r12, r13, r14⟩ := hR.1
  obtain ⟨ring', nx', ct', kept', hrem, hk, -, hH⟩ := RH_keep hR.2.2.2.2.1 hS
  have hwi := hR.2.1
  subst hwi
  unfold f_law16 f_X13_thrown
  rw [if_neg (xg1 hj hL), if_neg (xg2 hj hL), if_neg (xg3 hj hL)]
  generalize xs (nI (5 * j) + 1).toNatClampNeg = a1
  generalize xs (nI (5 * j) + 2).toNatClampNeg = a2
  generalize xs (nI (5 * j) + 3).toNatClampNeg = a3
  unfold f_L_setWeight f_X12_setWeight f_X13_setWeight
  rcases w_cases a1 with h1 | ⟨h1, r, hr, rfl⟩
  · simp only [s_requireWeather, m_isSort, if_pos h1, obS, n20, n21, if_true, if_false, joE, m_fails1, i10]
    exact ⟨_, rfl, hR⟩
  rcases w_cases a2 with h2 | ⟨h2, q, hq, rfl⟩
  · simp only [s_requireWeather, m_isSort, if_neg h1, if_pos h2, obS, n20, n21, if_true, if_false, joE, m_fails1, i10]
    exact ⟨_, rfl, hR⟩
  by_cases h3 : a3 < 0 ∨ 3 < a3
  · simp only [s_requireWeather, m_isSort, s_isWeight, s_in, if_neg h1, if_neg h2, if_pos h3, obS, n20, n21, if_true, if_false, joE, m_fails1, i10]
    exact ⟨_, rfl, hR⟩
  obtain ⟨v, -, hv, rfl⟩ := in_rng (lo := 0) (hi := 3) (by decide) (by decide) h3
  have hW : W4 x_x_station_climate_weights := r6
  have hv4 : v < 4 := by omega
  have hsum := m_wsum r5 hW hr
  have hwe := m_weighs r5 hr hq
  have hke := keepE hW hr hq hv4
  by_cases h0 : wsm x_x_station_climate_weights r - wx x_x_station_climate_weights r q + v = 0
  · have h0' := hke.mpr h0
    simp only [s_requireWeather, m_isSort, s_isWeight, s_in, if_neg h1, if_neg h2, if_neg h3, obS, n30, n32, if_true, if_false, joE, m_fails2, i10, s_keepsA hW hr hq hv4, if_pos h0, hsum, hwe]
    rw [if_pos h0']
    simp only [obS, i10, i20, if_false, if_true]
    exact ⟨_, rfl, hR⟩
  · have h0' : ¬ _ := fun z => h0 (hke.mp z)
    simp only [s_requireWeather, m_isSort, s_isWeight, s_in, if_neg h1, if_neg h2, if_neg h3, obS, if_true, if_false, joE, m_fails0, i10, s_keepsA hW hr hq hv4, if_neg h0, hsum, hwe, hrem, s_weight _ hr hq h1 h2, s_putW _ hr hq, hk, wcell hr hq]
    rw [if_neg h0', if_neg (g0F (by decide))]
    simp only [obS, if_true]
    rw [if_neg (ixo (show 32 + (4 * r + q) < 60 by omega) (by decide)), qI_cl (show 32 + (4 * r + q) < 2147483648 by omega)]
    simp only [obS, if_true]
    rw [if_neg (g0F (by decide)), out_same, if_pos rfl]
    exact ⟨_, rfl, Rel_mod hR hH (RS_w hS hr hq hv4 h0)⟩
