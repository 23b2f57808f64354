/-! the ring of stations, the whole class, doubles and floats, methods with handlers -/
noncomputable def w_X12 (g : GE) (z : ZE) (h0 h1 h2 h3 h4 h5 h6 h7 h8 h9 h10 h11 h12 h13 h14 h15 h16 h17 h18 h19 h20 h21 h22 h23 h24 h25 h26 : Nat) (h27 : Nat → Nat) (h91 h92 h93 h94 h95 h96 h97 h98 h99 h100 h101 h102 h103 h104 h105 h106 h107 h108 h109 : Nat) (h110 : Nat → Nat) (h125 h126 : Nat) (x_station_sheet_cells : Nat → Int32) (x_station_sheet_threshold : Int32) (x_station_climate_weights : Nat → Int32) (x_station_climate_present : Int32) (x_station_forecasts_days : Nat → Int32) (x_station_forecasts_weathers : Nat → Int32) (x_station_forecasts_count : Int32) (x_station_forecasts_scored : Int32) (x_station_forecasts_errors : Int32) (x_station_forecasts_hits : Int32) (x_station_day : Int32) (x_beforeText_sheet_cells : Nat → Int32) (x_beforeText_sheet_threshold : Int32) (x_beforeText_climate_weights : Nat → Int32) (x_beforeText_climate_present : Int32) (x_beforeText_forecasts_days : Nat → Int32) (x_beforeText_forecasts_weathers : Nat → Int32) (x_beforeText_forecasts_count : Int32) (x_beforeText_forecasts_scored : Int32) (x_beforeText_forecasts_errors : Int32) (x_beforeText_forecasts_hits : Int32) (x_beforeText_day : Int32) (x_snapshot_sheet_cells : Nat → Int32) (x_snapshot_sheet_threshold : Int32) (x_snapshot_climate_weights : Nat → Int32) (x_snapshot_climate_present : Int32) (x_snapshot_forecasts_days : Nat → Int32) (x_snapshot_forecasts_weathers : Nat → Int32) (x_snapshot_forecasts_count : Int32) (x_snapshot_forecasts_scored : Int32) (x_snapshot_forecasts_errors : Int32) (x_snapshot_forecasts_hits : Int32) (x_snapshot_day : Int32) (x_hasSnapshot : Int32) (x_history_ring : Nat → StT) (x_history_next : Int32) (x_history_count : Int32) (x_regions_regionOfCell : Nat → Int32) (x_regions_queue : Nat → Int32) (x_regions_queued : Int32) (x_regions_groupOfCell : Nat → Int32) (x_chances_byDay_numerators : Nat → Int64) (x_chances_byDay_denominators : Nat → Int64) (x_chances_nextDay_numerators : Nat → Int64) (x_chances_nextDay_denominators : Nat → Int64) (x_chances_byBranch_numerators : Nat → Int64) (x_chances_byBranch_denominators : Nat → Int64) (x_chances_sequences : Nat → Int32) (x_text_signs : Nat → Int32) (x_text_length : Int32) (x_text_position : Int32) (x_text_kinds : Nat → Option Nat) (x_text_values : Nat → Nat → Int32) (x_text_commandCount : Int32) (x_line_signs : Nat → Int32) (x_line_length : Int32) (x_malformedAt : Int32) (x_failedAt : Int32) : va_W := [(h0, .inr (12, [.ref h1, .ref h9, .ref h17, .int x_hasSnapshot, .ref h25, .ref h91, .ref h95, .ref h106, .ref h125, .int x_malformedAt, .int x_failedAt]))] ++ (w_X11 g h1 h2 h3 h4 h5 h6 h7 h8 x_station_sheet_cells x_station_sheet_threshold x_station_climate_weights x_station_climate_present x_station_forecasts_days x_station_forecasts_weathers x_station_forecasts_count x_station_forecasts_scored x_station_forecasts_errors x_station_forecasts_hits x_station_day ++ (w_X11 g h9 h10 h11 h12 h13 h14 h15 h16 x_beforeText_sheet_cells x_beforeText_sheet_threshold x_beforeText_climate_weights x_beforeText_climate_present x_beforeText_forecasts_days x_beforeText_forecasts_weathers x_beforeText_forecasts_count x_beforeText_forecasts_scored x_beforeText_forecasts_errors x_beforeText_forecasts_hits x_beforeText_day ++ (w_X11 g h17 h18 h19 h20 h21 h22 h23 h24 x_snapshot_sheet_cells x_snapshot_sheet_threshold x_snapshot_climate_weights x_snapshot_climate_present x_snapshot_forecasts_days x_snapshot_forecasts_weathers x_snapshot_forecasts_count x_snapshot_forecasts_scored x_snapshot_forecasts_errors x_snapshot_forecasts_hits x_snapshot_day ++ (w_X6 g h25 h26 h27 x_history_ring x_history_next x_history_count ++ (w_X9 g h91 h92 h93 h94 x_regions_regionOfCell x_regions_queue x_regions_queued x_regions_groupOfCell ++ (w_X1 g h95 h96 h97 h98 h99 h100 h101 h102 h103 h104 h105 x_chances_byDay_numerators x_chances_byDay_denominators x_chances_nextDay_numerators x_chances_nextDay_denominators x_chances_byBranch_numerators x_chances_byBranch_denominators x_chances_sequences ++ (w_X3 g z h106 h107 h108 h109 h110 x_text_signs x_text_length x_text_position x_text_kinds x_text_values x_text_commandCount ++ (w_X8 g h125 h126 x_line_signs x_line_length))))))))
theorem lt8 {K : Nat} (h : K < 8) : K = 0 ∨ K = 1 ∨ K = 2 ∨ K = 3 ∨ K = 4 ∨ K = 5 ∨ K = 6 ∨ K = 7 := by omega
theorem ringV {K : Nat} {h2 : Nat → Nat} (hK : K < 8) : (fun i => ([h2 0, h2 8, h2 16, h2 24, h2 32, h2 40, h2 48, h2 56] : List Nat)[i]?) K = some (h2 (8 * K)) := by
  rcases lt8 hK with rfl | rfl | rfl | rfl | rfl | rfl | rfl | rfl <;> rfl
theorem ringN1 {K : Nat} (hK : K < 8) : va_nd [2 + 8 * K, 3 + 8 * K, 4 + 8 * K, 5 + 8 * K, 6 + 8 * K, 7 + 8 * K, 8 + 8 * K, 9 + 8 * K, 66, 67, 68, 69, 70, 71, 72, 73] = true := by
  rcases lt8 hK with rfl | rfl | rfl | rfl | rfl | rfl | rfl | rfl <;> rfl
theorem ringN2 {K : Nat} (hK : K < 8) : va_nd [66, 67, 68, 69, 70, 71, 72, 73, 2 + 8 * K, 3 + 8 * K, 4 + 8 * K, 5 + 8 * K, 6 + 8 * K, 7 + 8 * K, 8 + 8 * K, 9 + 8 * K] = true := by
  rcases lt8 hK with rfl | rfl | rfl | rfl | rfl | rfl | rfl | rfl <;> rfl
set_option maxHeartbeats 4000000 in
set_option maxRecDepth 100000 in
theorem ringS1 {K : Nat} (hK : K < 8) {g : GE} {h0 h1 : Nat} {h2 : Nat → Nat} {R : Nat → StT} {n c : Int32} {a0 a1 a2 a3 a4 a5 a6 a7 : Nat} {l0 : Nat → Int32} {l1 : Int32} {l2 : Nat → Int32} {l3 : Int32} {l4 : Nat → Int32} {l5 : Nat → Int32} {l6 : Int32} {l7 : Int32} {l8 : Int32} {l9 : Int32} {l10 : Int32} : [2 + 8 * K, 3 + 8 * K, 4 + 8 * K, 5 + 8 * K, 6 + 8 * K, 7 + 8 * K, 8 + 8 * K, 9 + 8 * K, 66, 67, 68, 69, 70, 71, 72, 73].map (fun i => (((w_X6 g h0 h1 h2 R n c) ++ (w_X11 g a0 a1 a2 a3 a4 a5 a6 a7 l0 l1 l2 l3 l4 l5 l6 l7 l8 l9 l10)) : va_W)[i]?) = (((w_X11 g (h2 (8 * K + 0)) (h2 (8 * K + 1)) (h2 (8 * K + 2)) (h2 (8 * K + 3)) (h2 (8 * K + 4)) (h2 (8 * K + 5)) (h2 (8 * K + 6)) (h2 (8 * K + 7)) (R K).1 (R K).2.1 (R K).2.2.1 (R K).2.2.2.1 (R K).2.2.2.2.1 (R K).2.2.2.2.2.1 (R K).2.2.2.2.2.2.1 (R K).2.2.2.2.2.2.2.1 (R K).2.2.2.2.2.2.2.2.1 (R K).2.2.2.2.2.2.2.2.2.1 (R K).2.2.2.2.2.2.2.2.2.2) ++ (w_X11 g a0 a1 a2 a3 a4 a5 a6 a7 l0 l1 l2 l3 l4 l5 l6 l7 l8 l9 l10)) : va_W).map some := by
  rcases lt8 hK with rfl | rfl | rfl | rfl | rfl | rfl | rfl | rfl
  · exact getB2 (i := 2) (n := 8) (j := 66) (m := 8) rfl rfl rfl rfl
  · exact getB2 (i := 10) (n := 8) (j := 66) (m := 8) rfl rfl rfl rfl
  · exact getB2 (i := 18) (n := 8) (j := 66) (m := 8) rfl rfl rfl rfl
  · exact getB2 (i := 26) (n := 8) (j := 66) (m := 8) rfl rfl rfl rfl
  · exact getB2 (i := 34) (n := 8) (j := 66) (m := 8) rfl rfl rfl rfl
  · exact getB2 (i := 42) (n := 8) (j := 66) (m := 8) rfl rfl rfl rfl
  · exact getB2 (i := 50) (n := 8) (j := 66) (m := 8) rfl rfl rfl rfl
  · exact getB2 (i := 58) (n := 8) (j := 66) (m := 8) rfl rfl rfl rfl
set_option maxHeartbeats 4000000 in
set_option maxRecDepth 100000 in
theorem ringS2 {K : Nat} (hK : K < 8) {g : GE} {h0 h1 : Nat} {h2 : Nat → Nat} {R : Nat → StT} {n c : Int32} {a0 a1 a2 a3 a4 a5 a6 a7 : Nat} {l0 : Nat → Int32} {l1 : Int32} {l2 : Nat → Int32} {l3 : Int32} {l4 : Nat → Int32} {l5 : Nat → Int32} {l6 : Int32} {l7 : Int32} {l8 : Int32} {l9 : Int32} {l10 : Int32} : [66, 67, 68, 69, 70, 71, 72, 73, 2 + 8 * K, 3 + 8 * K, 4 + 8 * K, 5 + 8 * K, 6 + 8 * K, 7 + 8 * K, 8 + 8 * K, 9 + 8 * K].map (fun i => (((w_X6 g h0 h1 h2 R n c) ++ (w_X11 g a0 a1 a2 a3 a4 a5 a6 a7 l0 l1 l2 l3 l4 l5 l6 l7 l8 l9 l10)) : va_W)[i]?) = (((w_X11 g a0 a1 a2 a3 a4 a5 a6 a7 l0 l1 l2 l3 l4 l5 l6 l7 l8 l9 l10) ++ (w_X11 g (h2 (8 * K + 0)) (h2 (8 * K + 1)) (h2 (8 * K + 2)) (h2 (8 * K + 3)) (h2 (8 * K + 4)) (h2 (8 * K + 5)) (h2 (8 * K + 6)) (h2 (8 * K + 7)) (R K).1 (R K).2.1 (R K).2.2.1 (R K).2.2.2.1 (R K).2.2.2.2.1 (R K).2.2.2.2.2.1 (R K).2.2.2.2.2.2.1 (R K).2.2.2.2.2.2.2.1 (R K).2.2.2.2.2.2.2.2.1 (R K).2.2.2.2.2.2.2.2.2.1 (R K).2.2.2.2.2.2.2.2.2.2)) : va_W).map some := by
  rcases lt8 hK with rfl | rfl | rfl | rfl | rfl | rfl | rfl | rfl
  · exact getB2 (i := 66) (n := 8) (j := 2) (m := 8) rfl rfl rfl rfl
  · exact getB2 (i := 66) (n := 8) (j := 10) (m := 8) rfl rfl rfl rfl
  · exact getB2 (i := 66) (n := 8) (j := 18) (m := 8) rfl rfl rfl rfl
  · exact getB2 (i := 66) (n := 8) (j := 26) (m := 8) rfl rfl rfl rfl
  · exact getB2 (i := 66) (n := 8) (j := 34) (m := 8) rfl rfl rfl rfl
  · exact getB2 (i := 66) (n := 8) (j := 42) (m := 8) rfl rfl rfl rfl
  · exact getB2 (i := 66) (n := 8) (j := 50) (m := 8) rfl rfl rfl rfl
  · exact getB2 (i := 66) (n := 8) (j := 58) (m := 8) rfl rfl rfl rfl
set_option maxHeartbeats 4000000 in
set_option maxRecDepth 100000 in
theorem ringP1 {K : Nat} (hK : K < 8) {g : GE} {h0 h1 : Nat} {h2 : Nat → Nat} {R : Nat → StT} {n c : Int32} {a0 a1 a2 a3 a4 a5 a6 a7 : Nat} {l0 : Nat → Int32} {l1 : Int32} {l2 : Nat → Int32} {l3 : Int32} {l4 : Nat → Int32} {l5 : Nat → Int32} {l6 : Int32} {l7 : Int32} {l8 : Int32} {l9 : Int32} {l10 : Int32} {m0 : Nat → Int32} {m1 : Int32} {m2 : Nat → Int32} {m3 : Int32} {m4 : Nat → Int32} {m5 : Nat → Int32} {m6 : Int32} {m7 : Int32} {m8 : Int32} {m9 : Int32} {m10 : Int32} : putW ((w_X6 g h0 h1 h2 R n c) ++ (w_X11 g a0 a1 a2 a3 a4 a5 a6 a7 l0 l1 l2 l3 l4 l5 l6 l7 l8 l9 l10)) [2 + 8 * K, 3 + 8 * K, 4 + 8 * K, 5 + 8 * K, 6 + 8 * K, 7 + 8 * K, 8 + 8 * K, 9 + 8 * K, 66, 67, 68, 69, 70, 71, 72, 73] ((w_X11 g (h2 (8 * K + 0)) (h2 (8 * K + 1)) (h2 (8 * K + 2)) (h2 (8 * K + 3)) (h2 (8 * K + 4)) (h2 (8 * K + 5)) (h2 (8 * K + 6)) (h2 (8 * K + 7)) m0 m1 m2 m3 m4 m5 m6 m7 m8 m9 m10) ++ (w_X11 g a0 a1 a2 a3 a4 a5 a6 a7 l0 l1 l2 l3 l4 l5 l6 l7 l8 l9 l10)) = (w_X6 g h0 h1 h2 (va_up R K (m0, m1, m2, m3, m4, m5, m6, m7, m8, m9, m10)) n c) ++ (w_X11 g a0 a1 a2 a3 a4 a5 a6 a7 l0 l1 l2 l3 l4 l5 l6 l7 l8 l9 l10) := by
  rcases lt8 hK with rfl | rfl | rfl | rfl | rfl | rfl | rfl | rfl
  · exact putB2 (i := 2) (n := 8) (j := 66) (m := 8) rfl rfl rfl (Nat.le_of_ble_eq_true rfl) rfl rfl rfl rfl (Nat.le_of_ble_eq_true rfl) rfl
  · exact putB2 (i := 10) (n := 8) (j := 66) (m := 8) rfl rfl rfl (Nat.le_of_ble_eq_true rfl) rfl rfl rfl rfl (Nat.le_of_ble_eq_true rfl) rfl
  · exact putB2 (i := 18) (n := 8) (j := 66) (m := 8) rfl rfl rfl (Nat.le_of_ble_eq_true rfl) rfl rfl rfl rfl (Nat.le_of_ble_eq_true rfl) rfl
  · exact putB2 (i := 26) (n := 8) (j := 66) (m := 8) rfl rfl rfl (Nat.le_of_ble_eq_true rfl) rfl rfl rfl rfl (Nat.le_of_ble_eq_true rfl) rfl
  · exact putB2 (i := 34) (n := 8) (j := 66) (m := 8) rfl rfl rfl (Nat.le_of_ble_eq_true rfl) rfl rfl rfl rfl (Nat.le_of_ble_eq_true rfl) rfl
  · exact putB2 (i := 42) (n := 8) (j := 66) (m := 8) rfl rfl rfl (Nat.le_of_ble_eq_true rfl) rfl rfl rfl rfl (Nat.le_of_ble_eq_true rfl) rfl
  · exact putB2 (i := 50) (n := 8) (j := 66) (m := 8) rfl rfl rfl (Nat.le_of_ble_eq_true rfl) rfl rfl rfl rfl (Nat.le_of_ble_eq_true rfl) rfl
  · exact putB2 (i := 58) (n := 8) (j := 66) (m := 8) rfl rfl rfl (Nat.le_of_ble_eq_true rfl) rfl rfl rfl rfl (Nat.le_of_ble_eq_true rfl) rfl
set_option maxHeartbeats 4000000 in
set_option maxRecDepth 100000 in
theorem ringP2 {K : Nat} (hK : K < 8) {g : GE} {h0 h1 : Nat} {h2 : Nat → Nat} {R : Nat → StT} {n c : Int32} {a0 a1 a2 a3 a4 a5 a6 a7 : Nat} {l0 : Nat → Int32} {l1 : Int32} {l2 : Nat → Int32} {l3 : Int32} {l4 : Nat → Int32} {l5 : Nat → Int32} {l6 : Int32} {l7 : Int32} {l8 : Int32} {l9 : Int32} {l10 : Int32} {m0 : Nat → Int32} {m1 : Int32} {m2 : Nat → Int32} {m3 : Int32} {m4 : Nat → Int32} {m5 : Nat → Int32} {m6 : Int32} {m7 : Int32} {m8 : Int32} {m9 : Int32} {m10 : Int32} : putW ((w_X6 g h0 h1 h2 R n c) ++ (w_X11 g a0 a1 a2 a3 a4 a5 a6 a7 l0 l1 l2 l3 l4 l5 l6 l7 l8 l9 l10)) [66, 67, 68, 69, 70, 71, 72, 73, 2 + 8 * K, 3 + 8 * K, 4 + 8 * K, 5 + 8 * K, 6 + 8 * K, 7 + 8 * K, 8 + 8 * K, 9 + 8 * K] ((w_X11 g a0 a1 a2 a3 a4 a5 a6 a7 m0 m1 m2 m3 m4 m5 m6 m7 m8 m9 m10) ++ (w_X11 g (h2 (8 * K + 0)) (h2 (8 * K + 1)) (h2 (8 * K + 2)) (h2 (8 * K + 3)) (h2 (8 * K + 4)) (h2 (8 * K + 5)) (h2 (8 * K + 6)) (h2 (8 * K + 7)) (R K).1 (R K).2.1 (R K).2.2.1 (R K).2.2.2.1 (R K).2.2.2.2.1 (R K).2.2.2.2.2.1 (R K).2.2.2.2.2.2.1 (R K).2.2.2.2.2.2.2.1 (R K).2.2.2.2.2.2.2.2.1 (R K).2.2.2.2.2.2.2.2.2.1 (R K).2.2.2.2.2.2.2.2.2.2)) = (w_X6 g h0 h1 h2 R n c) ++ (w_X11 g a0 a1 a2 a3 a4 a5 a6 a7 m0 m1 m2 m3 m4 m5 m6 m7 m8 m9 m10) := by
  rcases lt8 hK with rfl | rfl | rfl | rfl | rfl | rfl | rfl | rfl
  · exact putB2 (i := 66) (n := 8) (j := 2) (m := 8) rfl rfl rfl (Nat.le_of_ble_eq_true rfl) rfl rfl rfl rfl (Nat.le_of_ble_eq_true rfl) rfl
  · exact putB2 (i := 66) (n := 8) (j := 10) (m := 8) rfl rfl rfl (Nat.le_of_ble_eq_true rfl) rfl rfl rfl rfl (Nat.le_of_ble_eq_true rfl) rfl
  · exact putB2 (i := 66) (n := 8) (j := 18) (m := 8) rfl rfl rfl (Nat.le_of_ble_eq_true rfl) rfl rfl rfl rfl (Nat.le_of_ble_eq_true rfl) rfl
  · exact putB2 (i := 66) (n := 8) (j := 26) (m := 8) rfl rfl rfl (Nat.le_of_ble_eq_true rfl) rfl rfl rfl rfl (Nat.le_of_ble_eq_true rfl) rfl
  · exact putB2 (i := 66) (n := 8) (j := 34) (m := 8) rfl rfl rfl (Nat.le_of_ble_eq_true rfl) rfl rfl rfl rfl (Nat.le_of_ble_eq_true rfl) rfl
  · exact putB2 (i := 66) (n := 8) (j := 42) (m := 8) rfl rfl rfl (Nat.le_of_ble_eq_true rfl) rfl rfl rfl rfl (Nat.le_of_ble_eq_true rfl) rfl
  · exact putB2 (i := 66) (n := 8) (j := 50) (m := 8) rfl rfl rfl (Nat.le_of_ble_eq_true rfl) rfl rfl rfl rfl (Nat.le_of_ble_eq_true rfl) rfl
  · exact putB2 (i := 66) (n := 8) (j := 58) (m := 8) rfl rfl rfl (Nat.le_of_ble_eq_true rfl) rfl rfl rfl rfl (Nat.le_of_ble_eq_true rfl) rfl
section ROWS5
variable {p : Program} {l : Launch} {e : Env} {R : Room} {s : State} {m : MethodId} {args : Array Value} {below : List Frame} {meth : Method} {c : Code} {H : Heap} {locs : List Loc} {cells slots : Nat} {Q : State → Prop}
variable {cc : ByteArray} {own : String} {wsl : List Cond} {nL : Nat} {rt : Option FieldType} {g : GE} {z : ZE} {A : Nat → Prop} {world wc w1 world' : va_W} {is : List Nat}
variable {y : MethodName} {wsy : List Cond} {rm : Room} {bytes : ByteArray} {maxL index n pc a : Nat} {ret : Option FieldType} {ls : Array Slot} {st rest As : List Value} {b : Nat}
theorem wDast {n : Nat} {f : Nat → UInt64} {i : Int32} {x : UInt64} (E : En cc own wsl nL rt p s m args meth c) (hK : KK g s) (hW : Wo g A s H locs world) (q0 : Nat) (ha : world[q0]? = some (a, .inl (g.2 3, n, .inr (.inr (.inr (.inl f)))))) (hin : ¬ (i < 0 ∨ n ≤ i.toNatClampNeg)) (hdg : decode cc pc = .ok (.dastore, 1)) (hnew : world.set q0 (a, .inl (g.2 3, n, .inr (.inr (.inr (.inl (va_up f i.toNatClampNeg x)))))) = world')
    (kk : ∀ (H : Heap) (locs : List Loc), Wo g A s H locs world' → W p l e R s m args below meth c H locs cells slots Q (F0 m (pc + 1) ls rest)) : W p l e R s m args below meth c H locs cells slots Q (F0 m pc ls (.double x :: .int i :: .ref a :: rest)) := by
  subst hnew
  exact va_dast E.1 E.2.1 hK.1 hW.1 hW.2.1 hW.2.2 q0 3 ha rfl hin hdg (fun H1 l1 h1 h2 h3 => kk H1 l1 ⟨h1, h2, h3⟩)
abbrev PoD (g : GE) (A : Nat → Prop) (ws1 : va_W) (r : UInt64) := va_Qd (S := Unit) (fun x _ => x = r) (fun _ t => EndB g ws1 t) A
def CD (l : Launch) (y : MethodName) (wsl : List Cond) (rm : Room) (g : GE) (av : List Value) (ws ws1 : va_W) (r : UInt64) : Prop := ∀ sz : Nat, Met l y wsl rm (PreM g av sz ws) (PoD g (va_A ws sz) ws1 r) 0 0 (va_A ws sz)
theorem endD {ws1 : va_W} {r : UInt64} (E : En cc own wsl nL (some .double) p s m args meth c) (hW : Wo g A s H locs ws1) (hdg : decode cc pc = .ok (.dreturn, 1)) : W p l e R s m args below meth c H locs cells slots (MQ below (PoD g A ws1 r) args s cells slots A) (F0 m pc ls [.double r]) := by
  obtain ⟨hx, hb, hr, hts, hown, hlocks, hml⟩ := E
  exact W.dret hx hb hr (fun t ht _ => ⟨⟨r, (), rfl, rfl, by show va_P _ _ _ t.heap; rw [ht]; exact hW.1⟩, hW.2.2.F ht⟩) hW.2.2.2.2 hdg
theorem goD {r : UInt64} {av : List Value} (hW : Wo g A s H locs world) (hA : ∀ q, s.heap.size ≤ q → A q) (hs : is.map (fun i => world[i]?) = wc.map some)
    (hR : va_Run p l e R s m args below meth c H locs cells slots 0 0 (F0 m pc ls st) rest (PoD g (va_A wc H.size) w1 r av.toArray) (va_A wc H.size)) (hadr : w1.map Prod.fst = wc.map Prod.fst) (hnew : putW world is w1 = world')
    (kk : ∀ (H : Heap) (locs : List Loc), Wo g A s H locs world' → W p l e R s m args below meth c H locs cells slots Q (F0 m (pc + 3) ls (.double r :: rest))) : W p l e R s m args below meth c H locs cells slots Q (F0 m pc ls st) :=
  va_calld hR hW.2.2 (fun q _ h => hW.free hA hs q h) (hW.free hA hs) (fun x u t H1 locs1 ht _ hx hB _ hk hS => hx ▸ kk H1 locs1 (goOn hW hA hs hnew hadr ht hB hk hS))
theorem mkD {wsl' : List Cond} {av : List Value} {ws ws1 : va_W} {r : UInt64} {maxL : Nat} {rt : FieldType} (hy : plainName y.cls = true) (hw : wsl = Cond.code y cc maxL (some rt) :: wsl') (hl : (lg_sl av).length ≤ maxL)
    (body : ∀ (p : Program) (e : Env) (s : State) (m : MethodId) (args : Array Value) (below : List Frame) (meth : Method) (c : Code) (A : Nat → Prop) (H : Heap) (locs : List Loc) (ls : Array Slot), En cc y.cls wsl maxL (some rt) p s m args meth c → KK g s → (∀ q, s.heap.size ≤ q → A q) → Wo g A s H locs ws → lv_has ls maxL (lv_args 0 av) →
      W p l e (headSpec wsl rm).room s m args below meth c H locs 0 0 (MQ below (PoD g A ws1 r) args s 0 0 A) (F0 m 0 ls [])) : CD l y wsl rm g av ws ws1 r := by
  intro sz
  refine Met.ofW (cc := cc) (maxL := maxL) (ret := some rt) hy hw ?_
  intro p e s m args below meth c s₁ B hml hv
  obtain ⟨rfl, hsz, hP, hK, hD0⟩ := hv
  subst hsz
  rw [lg_entry_eq]
  exact body p e s m _ below meth c _ s.heap [] _ ⟨B.exec, B.bytes, B.returns, atoms_spec (ws := wsl) B.pre, findClass_of_methodNamed B.named, B.notSynchronized, hml⟩ hK (fun q h => Or.inr h) ⟨hP, hD0.self, va_S.rf⟩ (lv_entry av hl)
abbrev PoF (g : GE) (A : Nat → Prop) (ws1 : va_W) (r : UInt32) := va_Qf (S := Unit) (fun x _ => x = r) (fun _ t => EndB g ws1 t) A
def CF (l : Launch) (y : MethodName) (wsl : List Cond) (rm : Room) (g : GE) (av : List Value) (ws ws1 : va_W) (r : UInt32) : Prop := ∀ sz : Nat, Met l y wsl rm (PreM g av sz ws) (PoF g (va_A ws sz) ws1 r) 0 0 (va_A ws sz)
theorem endF {ws1 : va_W} {r : UInt32} (E : En cc own wsl nL (some .float) p s m args meth c) (hW : Wo g A s H locs ws1) (hdg : decode cc pc = .ok (.freturn, 1)) : W p l e R s m args below meth c H locs cells slots (MQ below (PoF g A ws1 r) args s cells slots A) (F0 m pc ls [.float r]) := by
  obtain ⟨hx, hb, hr, hts, hown, hlocks, hml⟩ := E
  exact W.fret hx hb hr (fun t ht _ => ⟨⟨r, (), rfl, rfl, by show va_P _ _ _ t.heap; rw [ht]; exact hW.1⟩, hW.2.2.F ht⟩) hW.2.2.2.2 hdg
theorem goF {r : UInt32} {av : List Value} (hW : Wo g A s H locs world) (hA : ∀ q, s.heap.size ≤ q → A q) (hs : is.map (fun i => world[i]?) = wc.map some)
    (hR : va_Run p l e R s m args below meth c H locs cells slots 0 0 (F0 m pc ls st) rest (PoF g (va_A wc H.size) w1 r av.toArray) (va_A wc H.size)) (hadr : w1.map Prod.fst = wc.map Prod.fst) (hnew : putW world is w1 = world')
    (kk : ∀ (H : Heap) (locs : List Loc), Wo g A s H locs world' → W p l e R s m args below meth c H locs cells slots Q (F0 m (pc + 3) ls (.float r :: rest))) : W p l e R s m args below meth c H locs cells slots Q (F0 m pc ls st) :=
  va_callf hR hW.2.2 (fun q _ h => hW.free hA hs q h) (hW.free hA hs) (fun x u t H1 locs1 ht _ hx hB _ hk hS => hx ▸ kk H1 locs1 (goOn hW hA hs hnew hadr ht hB hk hS))
theorem mkF {wsl' : List Cond} {av : List Value} {ws ws1 : va_W} {r : UInt32} {maxL : Nat} {rt : FieldType} (hy : plainName y.cls = true) (hw : wsl = Cond.code y cc maxL (some rt) :: wsl') (hl : (lg_sl av).length ≤ maxL)
    (body : ∀ (p : Program) (e : Env) (s : State) (m : MethodId) (args : Array Value) (below : List Frame) (meth : Method) (c : Code) (A : Nat → Prop) (H : Heap) (locs : List Loc) (ls : Array Slot), En cc y.cls wsl maxL (some rt) p s m args meth c → KK g s → (∀ q, s.heap.size ≤ q → A q) → Wo g A s H locs ws → lv_has ls maxL (lv_args 0 av) →
      W p l e (headSpec wsl rm).room s m args below meth c H locs 0 0 (MQ below (PoF g A ws1 r) args s 0 0 A) (F0 m 0 ls [])) : CF l y wsl rm g av ws ws1 r := by
  intro sz
  refine Met.ofW (cc := cc) (maxL := maxL) (ret := some rt) hy hw ?_
  intro p e s m args below meth c s₁ B hml hv
  obtain ⟨rfl, hsz, hP, hK, hD0⟩ := hv
  subst hsz
  rw [lg_entry_eq]
  exact body p e s m _ below meth c _ s.heap [] _ ⟨B.exec, B.bytes, B.returns, atoms_spec (ws := wsl) B.pre, findClass_of_methodNamed B.named, B.notSynchronized, hml⟩ hK (fun q h => Or.inr h) ⟨hP, hD0.self, va_S.rf⟩ (lv_entry av hl)
theorem wDald {n : Nat} {f : Nat → UInt64} {i : Int32} (E : En cc own wsl nL rt p s m args meth c) (hK : KK g s) (hW : Wo g A s H locs world) (q0 : Nat) (ha : world[q0]? = some (a, .inl (g.2 3, n, .inr (.inr (.inr (.inl f)))))) (hin : ¬ (i < 0 ∨ n ≤ i.toNatClampNeg)) (hdg : decode cc pc = .ok (.daload, 1))
    (kk : W p l e R s m args below meth c H locs cells slots Q (F0 m (pc + 1) ls (.double (f i.toNatClampNeg) :: rest))) : W p l e R s m args below meth c H locs cells slots Q (F0 m pc ls (.int i :: .ref a :: rest)) :=
  va_dald E.1 E.2.1 hK.1 hW.1 q0 3 ha rfl hin hdg kk
theorem goSTW {hh : List (Nat × Nat × Nat × Nat)} {mc1 ms1 : Nat} {Qc : Array Value → State → Outcome → State → Prop} {XC : String → State → State → Prop} (E : En cc own wsl nL rt p s m args meth c) (hK : KK g s) (hz : KS z s) (hC : CS z A s s.heap) (hX : EX l s) (hA : ∀ q, s.heap.size ≤ q → A q) (hW : Wo g A s H locs world) (is : List Nat) (hs : is.map (fun i => world[i]?) = wc.map some) (hn : va_nd is = true)
    (hM : vx_Met l y wsy rm (PreT l g z As H.size wc) Qc XC mc1 ms1 (va_A wc H.size)) (cw : vx_CSW R s args own index y bytes maxL ret hh wsy rm mc1 ms1 n)
    (hsz : ls.size = nL) (hst : st = As.reverse ++ rest) (hl : As.length = n) (hroom : (rest.map fun v => v.category).sum ≤ 8) (hdg : decode cc pc = .ok (.invokestatic index, 3)) (hf : cells + mc1 ≤ R.cells ∧ slots + ms1 ≤ R.slots) :
    vx_Run p l e R s m args below meth c H locs cells slots mc1 ms1 (F0 m pc ls st) rest (Qc As.toArray) XC (va_A wc H.size) := by
  obtain ⟨hx, hb, hr, hts, hown, hlocks, hml⟩ := E
  exact vx_runSX ⟨hx, hb, hml, hown, hts⟩ hM cw ⟨PreT.blind, fun U hU hw => PreT.of hU hw (hW.subP hs) hK (hW.subD hs hn) hz hC hX hW.2.2 (hW.free hA hs)⟩ rfl hl hsz hst (lv_room hroom) hdg hf
theorem mkTIH {hh : List (Nat × Nat × Nat × Nat)} {wsl' : List Cond} {av : List Value} {ws ws1 : va_W} {k mc ms : Nat} {r : Int32} {maxL : Nat} {rt : FieldType} (hy : plainName y.cls = true) (hw : wsl = Cond.codeWith y cc maxL (some rt) hh :: wsl') (hl : (lg_sl av).length ≤ maxL)
    (body : ∀ (p : Program) (e : Env) (s : State) (m : MethodId) (args : Array Value) (below : List Frame) (meth : Method) (c : Code) (A : Nat → Prop) (H : Heap) (locs : List Loc) (ls : Array Slot), En cc y.cls wsl maxL (some rt) p s m args meth c → c.exceptionTable.toList = tableOf hh → KK g s → KS z s → CS z A s s.heap → EX l s → (∀ q, s.heap.size ≤ q → A q) → Wo g A s H locs ws → lv_has ls maxL (lv_args 0 av) →
      W p l e (headSpec wsl rm).room s m args below meth c H locs 0 0 (vx_MQ below (QtI g A ws1 k r) (XCt g A ws1 k) args s mc ms A) (F0 m 0 ls [])) : TI l y wsl rm g z av ws ws1 k r mc ms := by
  intro sz
  refine vx_ofWH (cc := cc) (maxL := maxL) (ret := some rt) hy hw ?_
  intro p e s m args below meth c s₁ B hml hv
  have ht := vx_table (x := y) B (atoms_spec (ws := wsl) B.pre _ (by rw [hw]; exact List.mem_cons_self))
  obtain ⟨rfl, ⟨⟨hsz, hP, hK, hD0⟩, hKS, hC⟩, hX⟩ := hv
  subst hsz
  rw [lg_entry_eq]
  exact body p e s m _ below meth c _ s.heap [] _ ⟨B.exec, B.bytes, B.returns, atoms_spec (ws := wsl) B.pre, findClass_of_methodNamed B.named, B.notSynchronized, hml⟩ ht hK hKS hC hX (fun q h => Or.inr h) ⟨hP, hD0.self, va_S.rf⟩ (lv_entry av hl)
end ROWS5
