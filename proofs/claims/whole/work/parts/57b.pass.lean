/-! a day passes, whole -/
theorem s_changeTo {w : Nat → Int32} (hW : W4 w) {p b : Nat} (hp : p < 4) (hb : b < 4) : f_X2_changeTo w (nI p) (nI b) = some (if wx w p b = 3 then w else upd w (4 * p + b) (nI (wx w p b + 1)), nI b) := by
  obtain ⟨e, hlt⟩ := wx_eq hW hp hb
  unfold f_X2_changeTo
  rw [joE, s_weight w hp hb (nw4 hp) (nw4 hb), obS, e]
  by_cases h3 : wx w p b = 3
  · rw [if_pos h3, h3, if_pos (show (3 : Int32) ≤ nI 3 from Int32.le_refl _)]
  · rw [if_neg h3, if_neg (show ¬ (3 : Int32) ≤ nI (wx w p b) from nle (show wx w p b < 3 by omega) (by decide)), qI_succ, s_putW w hp hb, obS]
theorem clim {c : Nat → Int32} {t : Int32} {w d e : Nat → Int32} {n s r h y : Int32} {g : Nat → Int32} {p b : Nat} (H : RS (c, t, w, nI p, d, e, n, s, r, h, y) g) (hp : p < 4) (hb : b < 4) :
    ∃ w' g1, f_X2_changeTo w (nI p) (nI b) = some (w', nI b) ∧ RS (c, t, w', nI p, d, e, n, s, r, h, y) g1 ∧ (if 3 ≤ g (32 + (4 * p + b)) then g else upd g (32 + (4 * p + b)) (g (32 + (4 * p + b)) + 1)) = g1 := by
  have hW : W4 w := H.2.2.2.2.2.1
  obtain ⟨e1, hlt⟩ := wx_eq hW hp hb
  have hg : g (32 + (4 * p + b)) = nI (wx w p b) := (H.2.2.2.2.1 (4 * p + b) (by omega)).trans e1
  refine ⟨_, _, s_changeTo hW hp hb, ?_, rfl⟩
  rw [hg]
  by_cases h3 : wx w p b = 3
  · rw [if_pos h3, h3, if_pos (show (3 : Int32) ≤ nI 3 from Int32.le_refl _)]
    exact H
  · rw [if_neg h3, if_neg (show ¬ (3 : Int32) ≤ nI (wx w p b) from nle (show wx w p b < 3 by omega) (by decide)), qI_succ]
    refine RS_w H hp hb (by omega) ?_
    have := wx_le w p hb
    omega
theorem RS_pd {c : Nat → Int32} {t : Int32} {w d e : Nat → Int32} {n s r h y : Int32} {g : Nat → Int32} {p : Int32} {b : Nat} (H : RS (c, t, w, p, d, e, n, s, r, h, y) g) (hb : b < 4) : RS (c, t, w, nI b, d, e, n, s, r, h, y + 1) (upd (upd g 0 (g 0 + 1)) 1 (nI b)) := by
  obtain ⟨r1, r2, r3, r4, r5, r6, r7, r8, r9, ⟨fn, f6, f1, f2, f3⟩, r11, r12, r13, r14⟩ := H
  have hi : ∀ i, 2 ≤ i → upd (upd g 0 (g 0 + 1)) 1 (nI b) i = g i := fun i hi => (upd_ne _ _ (by omega)).trans (upd_ne _ _ (by omega))
  refine ⟨fun k hk => (hi _ (by omega)).trans (r1 k hk), r2, (hi 2 (by omega)).trans r3, r4, fun k hk => (hi _ (by omega)).trans (r5 k hk), r6, r7, upd_same _ _ _, ⟨b, hb, rfl⟩, ⟨fn, f6, f1, (hi 3 (by omega)).trans f2, fun k hk => ?_⟩, (hi 4 (by omega)).trans r11, (hi 5 (by omega)).trans r12, (hi 6 (by omega)).trans r13, ?_⟩
  · obtain ⟨a, q, v⟩ := f3 k hk
    exact ⟨(hi _ (by omega)).trans a, (hi _ (by omega)).trans q, v⟩
  · show upd (upd g 0 (g 0 + 1)) 1 (nI b) 0 = y + 1
    rw [upd_ne _ _ (by decide), upd_same]
    exact congrArg (· + 1) r14
theorem RS_list {c : Nat → Int32} {t : Int32} {w d e : Nat → Int32} {n s r h y : Int32} {g : Nat → Int32} {p : Int32} (H : RS (c, t, w, p, d, e, n, s, r, h, y) g) : ∃ l : List (Int32 × Int32), l.length ≤ 6 ∧ n = nI l.length ∧ FL d e l ∧ GL g l ∧ SmallW l := by
  obtain ⟨-, -, -, -, -, -, -, -, -, ⟨fn, f6, f1, f2, f3⟩, -⟩ := H
  have hl : ((List.range fn).map (fun k => (d k, e k))).length = fn := by simp
  have hk : ∀ k, k < fn → ((List.range fn).map (fun k => (d k, e k)))[k]? = some (d k, e k) := fun k h => by simp [h]
  refine ⟨(List.range fn).map (fun k => (d k, e k)), by rw [hl]; exact f6, by rw [hl]; exact f1, fun k h => hk k (by rw [hl] at h; exact h), ⟨by rw [hl]; exact f2, fun k h => ?_⟩, fun x hx => ?_⟩
  · rw [hl] at h
    obtain ⟨a, b, -⟩ := f3 k h
    rw [hk k h, a, b]
  · obtain ⟨k, h, rfl⟩ := List.mem_map.mp hx
    exact (f3 k (List.mem_range.mp h)).2.2
theorem pass_both {c : Nat → Int32} {t : Int32} {w d e : Nat → Int32} {n s r h y : Int32} {g : Nat → Int32} {p : Int32} (H : RS (c, t, w, p, d, e, n, s, r, h, y) g) {b : Nat} (hb : b < 4) :
    ∃ (sum : Int32) (w' d' e' : Nat → Int32) (n' s' r' h' : Int32) (g' : Nat → Int32), f_X11_passDay w p d e n s r h y (nI b) = some (sum, w', nI b, d', e', n', s', r', h', y + 1) ∧ (∀ (kept : Nat → Int32) (ch wi code : Int32) (kept' : Nat → Int32) (ch' : Int32), (∀ code, f_X13_keeps__g g kept ch wi code = some (kept', ch', 0)) → f_X13_observe g kept ch wi code (nI b) = some (sum, g', kept', ch', 0)) ∧ RS (c, t, w', nI b, d', e', n', s', r', h', y + 1) g' := by
  obtain ⟨p0, hp0, ep⟩ : ∃ v, v < 4 ∧ p = nI v := H.2.2.2.2.2.2.2.2.1
  subst ep
  have hg1 : g 1 = nI p0 := H.2.2.2.2.2.2.2.1
  obtain ⟨w', g1, q1, q2, q3⟩ := clim H hp0 hb
  have HP := RS_pd q2 hb
  obtain ⟨l, hl6, hn, hF, hG, hW⟩ := RS_list HP
  have h0 : upd (upd g1 0 (g1 0 + 1)) 1 (nI b) 0 = y + 1 := HP.2.2.2.2.2.2.2.2.2.2.2.2.2
  obtain ⟨d', e', u1, u2⟩ := s_score_go (y + 1) hb (fun a b c d' e' f' => some (a, b, c, d', e', (r + a), f')) l.length 1000 l [] 0 d e s h rfl (by omega) (by rw [List.append_nil]; exact hl6) (by rw [List.append_nil]; exact hF) hW
  obtain ⟨g', v1, v2, v4, v6, v0⟩ := m_obs_go (nI b) (y + 1) l.length 1000 [] l 0 (upd (upd g1 0 (g1 0 + 1)) 1 (nI b)) rfl (by omega) (by rw [List.nil_append]; exact hl6) hG h0
  rw [List.append_nil, List.append_nil] at u1
  rw [List.append_nil] at u2
  rw [List.nil_append] at v2
  obtain ⟨r1, r2, r3, r4, r5, r6, r7, r8, r9, -, r11, r12, r13, r14⟩ := HP
  have hn' : n = nI l.length := hn
  refine ⟨0 + tS (fE (y + 1) (nI b)) l, w', d', e', nI (l.filter (kp (y + 1))).length, s + tS (fC (y + 1)) l, r + (0 + tS (fE (y + 1) (nI b)) l), h + tS (fH (y + 1) (nI b)) l, upd g' 5 (g' 5 + (0 + tS (fE (y + 1) (nI b)) l)), ?_, fun kept ch wi code kept' ch' hk => ?_, ?_⟩
  · unfold f_X11_passDay f_X4_score
    rw [q1, obS, hn', Int32.sub_eq_add_neg, u1, obS]
  · unfold f_X13_observe
    simp only [joE, m_isSort, if_neg (nw4 hb), obS, i10, if_false, m_fails0, if_true, hk]
    rw [show g (1 : Int32).toNatClampNeg = nI p0 from hg1, wcell hp0 hb, if_neg (ixo (show 32 + (4 * p0 + b) < 60 by omega) (by decide)), qI_cl (show 32 + (4 * p0 + b) < 2147483648 by omega)]
    have key : ∀ gg : Nat → Int32, gg = g1 → f_X13_observe_85 (nI b) (fun l3 gg => some (l3, upd gg (5 : Int32).toNatClampNeg (gg (5 : Int32).toNatClampNeg + l3), kept', ch', (0 : Int32))) 1000 0 0 (upd (upd gg (0 : Int32).toNatClampNeg (gg (0 : Int32).toNatClampNeg + 1)) (1 : Int32).toNatClampNeg (nI b)) = some (0 + tS (fE (y + 1) (nI b)) l, upd g' 5 (g' 5 + (0 + tS (fE (y + 1) (nI b)) l)), kept', ch', 0) := by
      intro gg hgg
      subst hgg
      exact v1 _
    by_cases e3 : 3 ≤ g (32 + (4 * p0 + b))
    · rw [if_pos e3] at q3 ⊢
      exact key _ q3
    · rw [if_neg e3] at q3 ⊢
      exact key _ q3
  · have hi : ∀ i, i < 48 → i ≠ 3 → i ≠ 4 → i ≠ 5 → i ≠ 6 → upd g' 5 (g' 5 + (0 + tS (fE (y + 1) (nI b)) l)) i = upd (upd g1 0 (g1 0 + 1)) 1 (nI b) i := fun i a b c d e => (upd_ne _ _ d).trans (v0 i a b c e)
    have hj : ∀ i, i ≠ 5 → upd g' 5 (g' 5 + (0 + tS (fE (y + 1) (nI b)) l)) i = g' i := fun i a => upd_ne _ _ a
    refine ⟨fun k hk => (hi _ (by omega) (by omega) (by omega) (by omega) (by omega)).trans (r1 k hk), r2, (hi 2 (by omega) (by omega) (by omega) (by omega) (by omega)).trans r3, r4, fun k hk => (hi _ (by omega) (by omega) (by omega) (by omega) (by omega)).trans (r5 k hk), r6, r7, (hi 1 (by omega) (by omega) (by omega) (by omega) (by omega)).trans r8, r9, ⟨(l.filter (kp (y + 1))).length, Nat.le_trans (List.length_filter_le _ _) hl6, rfl, (hj 3 (by decide)).trans v2.1, fun k hk => ?_⟩, (hj 4 (by decide)).trans (v4.trans (congrArg (· + tS (fC (y + 1)) l) r11)), ?_, (hj 6 (by decide)).trans (v6.trans (congrArg (· + tS (fH (y + 1) (nI b)) l) r13)), (hi 0 (by omega) (by omega) (by omega) (by omega) (by omega)).trans r14⟩
    · have a1 := u2 k hk
      have a2 := v2.2 k hk
      have a3 := Option.some.inj (a1.symm.trans a2)
      rw [hj _ (by omega), hj _ (by omega)]
      refine ⟨(congrArg Prod.fst a3).symm, (congrArg Prod.snd a3).symm, ?_⟩
      exact hW (d' k, e' k) (List.mem_filter.mp (List.mem_of_getElem? a1)).1
    · show upd g' 5 (g' 5 + (0 + tS (fE (y + 1) (nI b)) l)) 5 = r + (0 + tS (fE (y + 1) (nI b)) l)
      rw [upd_same, v0 5 (by decide) (by decide) (by decide) (by decide)]
      exact congrArg (· + (0 + tS (fE (y + 1) (nI b)) l)) r12
