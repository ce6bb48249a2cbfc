theorem q_span (N : Nat) (hN : 200000 ≤ N) (p1 p2 p3 p4 : Int32) {P : Nat} {dp : Int32} {dr dn mp mr mw : Nat → Int32} (hc : RC P dp dr dn mp mr mw) {dm : Int32} {mm : Nat → Int32} (hm : dm = mm 0) (l m : Nat → Nat → Int32) (L M : Nat → Int32) :
    ∃ r l' m' L' M', f8_span N p1 p2 p3 p4 dp dm dr dn l m = some (r, l', m') ∧ f9_span N p1 p2 p3 p4 mp mr mw mm L M = some (r, L', M') := by
  have hr := hc.h
  have hP := hc.1
  obtain rfl := hc.2.1
  have hm0 := hc.2.2.1
  subst hm
  unfold f8_span f9_span
  rw [x_hasMouth N p1 P hP, x_hasMouth N p2 P hP, m_isMouth N p1 P hP mp mm hm0, m_isMouth N p2 P hP mp mm hm0, m_in, m_in, x_isDays]
  simp only [ob1_k, b_z, ite_not, t_1, t_40, t_0]
  by_cases h1 : (0 ≤ p1.toInt ∧ p1.toInt < (P : Int)) ∧ bW (mm 0) p1
  · rw [if_pos h1, if_pos h1]
    by_cases h2 : (0 ≤ p2.toInt ∧ p2.toInt < (P : Int)) ∧ bW (mm 0) p2
    · rw [if_pos h2, if_pos h2]
      by_cases h3 : 1 ≤ p3.toInt ∧ p3.toInt ≤ 40
      · rw [if_pos h3, if_pos h3]
        by_cases h4 : 0 ≤ p4.toInt ∧ p4.toInt ≤ 1
        · obtain ⟨a, ha, rfl⟩ := nI_nat h1.1.1 h1.1.2
          obtain ⟨b, hb, rfl⟩ := nI_nat h2.1.1 h2.1.2
          obtain ⟨d, hd, rfl⟩ := nI_nat2 (M := 40) (by omega) h3.2
          have hd1 : 1 ≤ d := by
            have := h3.1
            rw [t_nI (by omega)] at this
            omega
          obtain ⟨l', m', e1, e2⟩ := sp_layDays N (by omega) hc hb hd l m
          obtain ⟨L', M', g1, g2⟩ := fs_all N (by omega) hr hm0 hb L M
          have k1 := e2 d a hd1 (Nat.le_refl _) ha
          have k2 := g2 d a hd1 hd ha
          have w1 : l' d a = L' (7 * d + a) := (congrArg Prod.fst k1).trans (congrArg Prod.fst k2).symm
          have w2 : m' d a = M' (7 * d + a) := (congrArg Prod.snd k1).trans (congrArg Prod.snd k2).symm
          rw [if_neg (show ¬ p4 < 0 by rw [t_lt, t_0]; omega), if_pos (show p4 ≤ 1 by rw [t_le, t_1]; omega), if_pos h4, e1, g1]
          simp only [ob2_k]
          rw [sp_least N hd1 hd (by omega), sp_most N hd1 hd (by omega), sp_ix N hd (by omega)]
          simp only [ob1_k]
          rw [x_gi (by omega) (by omega), x_gi (by omega) (by omega), cl_nI (by omega)]
          by_cases c : p4 = 0
          · refine ⟨L' (7 * d + a), l', m', L', M', ?_, ?_⟩
            · rw [if_pos c, w1]
            · rw [if_pos c]
              by_cases g : L' (7 * d + a) = -1
              · rw [if_pos g, g]
              · rw [if_neg g]
          · refine ⟨M' (7 * d + a), l', m', L', M', ?_, ?_⟩
            · rw [if_neg c, w2]
            · rw [if_neg c]
              by_cases g : M' (7 * d + a) = -1
              · rw [if_pos g, g]
              · rw [if_neg g]
        · refine ⟨_, l, m, L, M, ?_, by rw [if_neg h4]⟩
          by_cases c : p4 < 0
          · rw [if_pos c]
          · rw [if_neg c, if_neg (fun h => h4 ⟨by rw [t_lt, t_0] at c; omega, by rw [t_le, t_1] at h; exact h⟩)]
      · rw [if_neg h3, if_neg h3]
        exact ⟨_, l, m, L, M, rfl, rfl⟩
    · rw [if_neg h2, if_neg h2]
      exact ⟨_, l, m, L, M, rfl, rfl⟩
  · rw [if_neg h1, if_neg h1]
    exact ⟨_, l, m, L, M, rfl, rfl⟩
theorem lg_end (N : Nat) (p1 : Int32) {P : Nat} (hP : P ≤ 7) (dm : Int32) (dr dn : Nat → Int32) (x y : Int32) (l m : Nat → Nat → Int32) : ∀ (k j n : Nat), j + k = 7 → P ≤ j → k < n → f8_longest_L27 N p1 (nI P) dm dr dn n x y (nI j) l m = some (x, y, l, m) := by
  intro k
  induction k with
  | zero =>
    intro j n hj h1 hn
    obtain ⟨n, rfl⟩ : ∃ n', n = n' + 1 := ⟨n - 1, by omega⟩
    rw [f8_longest_L27, if_pos (by rw [t_le, t_nI (by omega), t_7]; omega)]
  | succ k ih =>
    intro j n hj h1 hn
    obtain ⟨n, rfl⟩ : ∃ n', n = n' + 1 := ⟨n - 1, by omega⟩
    rw [f8_longest_L27, if_neg (c7 (by omega)), x_hasMouth N _ P hP, if_neg (fun h => by
      have := h.1.2
      rw [t_nI (by omega)] at this
      omega), ob1_k, if_pos rfl, nI_1]
    exact ih (j + 1) n (by omega) (by omega) (by omega)
theorem q_longest (N : Nat) (hN : 200000 ≤ N) (p1 p2 : Int32) {P : Nat} {dp : Int32} {dr dn mp mr mw : Nat → Int32} (hc : RC P dp dr dn mp mr mw) {dm : Int32} {mm : Nat → Int32} (hm : dm = mm 0) (l m : Nat → Nat → Int32) (L M : Nat → Int32) :
    ∃ r l' m' L' M', f8_longest N p1 p2 dp dm dr dn l m = some (r, l', m') ∧ f9_longest N p1 p2 mp mr mw mm L M = some (r, L', M') := by
  have hr := hc.h
  have hP := hc.1
  obtain rfl := hc.2.1
  have hm0 := hc.2.2.1
  subst hm
  unfold f8_longest f9_longest
  rw [m_in, m_in, x_isDays]
  simp only [ob1_k, b_z, ite_not, t_1, t_40, t_0]
  by_cases h3 : 1 ≤ p1.toInt ∧ p1.toInt ≤ 40
  · rw [if_pos h3, if_pos h3]
    by_cases h4 : 0 ≤ p2.toInt ∧ p2.toInt ≤ 1
    · obtain ⟨d, hd, rfl⟩ := nI_nat2 (x := p1) (M := 40) (by omega) h3.2
      have hd1 : 1 ≤ d := by
        have := h3.1
        rw [t_nI (by omega)] at this
        omega
      have H : ∀ (k j n : Nat) (x y : Int32) (l m : Nat → Nat → Int32) (L M : Nat → Int32), j + k = P → k + 8 < n →
          ∃ x' y' l' m' L' M', f8_longest_L27 N (nI d) (nI P) (mm 0) dr dn n x y (nI j) l m = some (x', y', l', m') ∧ f9_longest_L30 N (nI d) mp mr mw mm n x y (nI j) L M = some (x', y', L', M') := by
        intro k
        induction k with
        | zero =>
          intro j n x y l m L M hj hn
          obtain ⟨n, rfl⟩ : ∃ n', n = n' + 1 := ⟨n - 1, by omega⟩
          refine ⟨x, y, l, m, L, M, lg_end N _ hP _ dr dn x y l m (7 - j) j (n + 1) (by omega) (by omega) (by omega), ?_⟩
          rw [f9_longest_L30, gi_ok (i := 0) (by decide) (by decide), n_0, hm0, if_pos (nI_le (by omega) (by omega))]
        | succ k ih =>
          intro j n x y l m L M hj hn
          obtain ⟨n, rfl⟩ : ∃ n', n = n' + 1 := ⟨n - 1, by omega⟩
          have hjP : j < P := by omega
          rw [f8_longest_L27, f9_longest_L30, gi_ok (i := 0) (by decide) (by decide), n_0, hm0, if_neg (c7 (by omega)), if_neg (nI_ge hjP (by omega)), x_hasMouth N _ P hP, m_isMouth N _ P hP mp mm hm0]
          simp only [ob1_k, b_z, ite_not]
          rw [nI_1]
          by_cases c : (0 ≤ (nI j).toInt ∧ (nI j).toInt < (P : Int)) ∧ bW (mm 0) (nI j)
          · obtain ⟨l', m', e1, e2⟩ := sp_layDays N (by omega) hc hjP hd l m
            obtain ⟨L', M', g1, g2⟩ := fs_all N (by omega) hr hm0 hjP L M
            have k1 := e2 d j hd1 (Nat.le_refl _) hjP
            have k2 := g2 d j hd1 hd hjP
            have w2 : m' d j = M' (7 * d + j) := (congrArg Prod.snd k1).trans (congrArg Prod.snd k2).symm
            rw [if_pos c, if_pos c, e1, g1]
            simp only [ob2_k]
            rw [sp_most N hd1 hd (by omega), sp_ix N hd (by omega)]
            simp only [ob1_k]
            rw [x_gi (by omega) (by omega)]
            unfold f9_longest_J82
            rw [cl_nI (by omega), w2, nI_1]
            by_cases g : M' (7 * d + j) ≤ y
            · simp only [if_pos g]
              exact ih (j + 1) n x y l' m' L' M' (by omega) (by omega)
            · simp only [if_neg g]
              exact ih (j + 1) n _ _ l' m' L' M' (by omega) (by omega)
          · rw [if_neg c, if_neg c]
            exact ih (j + 1) n x y l m L M (by omega) (by omega)
      obtain ⟨x', y', l', m', L', M', e1, e2⟩ := H P 0 N (-1) (-1) l m L M (by omega) (by omega)
      rw [if_neg (show ¬ p2 < 0 by rw [t_lt, t_0]; omega), if_pos (show p2 ≤ 1 by rw [t_le, t_1]; omega), if_pos h4, l_0, e1, e2]
      simp only [ob4_k]
      by_cases c : p2 = nI 0
      · rw [if_pos c, if_pos c]
        exact ⟨_, _, _, _, _, rfl, rfl⟩
      · rw [if_neg c, if_neg c]
        exact ⟨_, _, _, _, _, rfl, rfl⟩
    · refine ⟨_, l, m, L, M, ?_, by rw [if_neg h4]⟩
      by_cases c : p2 < 0
      · rw [if_pos c]
      · rw [if_neg c, if_neg (fun h => h4 ⟨by rw [t_lt, t_0] at c; omega, by rw [t_le, t_1] at h; exact h⟩)]
  · rw [if_neg h3, if_neg h3]
    exact ⟨_, l, m, L, M, rfl, rfl⟩
