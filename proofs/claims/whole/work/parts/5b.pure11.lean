/-! ALIKE, FITS, part -/
theorem part_out (N : Nat) {P j : Nat} (hP : P ≤ 7) (hj : P ≤ j) (hj7 : j ≤ 7) : f0_hasPart N (nI j) (nI P) = some 0 := by
  rw [x_part7 N _ P hP, if_neg (fun h => by rw [t_nI (by omega)] at h; omega)]
theorem part_in (N : Nat) {P j : Nat} (hP : P ≤ 7) (hj : j < P) : f0_hasPart N (nI j) (nI P) = some 1 := by
  rw [x_part7 N _ P hP, if_pos (nI_in7 hP hj)]
theorem c7 {j : Nat} (h : j < 7) : ¬ (7 : Int32) ≤ nI j := fun q => by rw [t_le, t_7, t_nI (by omega)] at q; omega
theorem alike_end (N : Nat) {P : Nat} (hP : P ≤ 7) (p1 : Int32) (dr : Nat → Int32) : ∀ (n j : Nat) (x : Int32), P ≤ j → j ≤ 7 → 8 ≤ j + n → f0_alikeSet_L4 N p1 (nI P) dr n x (nI j) = some x := by
  intro n
  induction n with
  | zero => intro j x h1 h2 h3; omega
  | succ n ih =>
    intro j x h1 h2 h3
    rw [f0_alikeSet_L4]
    by_cases hj : j = 7
    · subst hj
      rw [if_pos (show (7 : Int32) ≤ nI 7 from Int32.le_refl _)]
    · rw [if_neg (c7 (by omega)), part_out N hP h1 h2, ob1_k, if_pos rfl, nI_1, ih (j + 1) x (by omega) (by omega) (by omega), ite_self]
theorem q_alike (N : Nat) (hN : 20 ≤ N) {P : Nat} {dp : Int32} {dr dn mp mr mw : Nat → Int32} (hc : RC P dp dr dn mp mr mw) {p : Nat} (hp : p < P) : ∃ r, f0_alikeSet N (nI p) dp dr = some r ∧ f9_alike N (nI p) mp mr = some r := by
  obtain ⟨hP, rfl, hm, hrw⟩ := hc
  have L : ∀ (n j : Nat) (x : Int32), j ≤ P → 8 ≤ j + n → ∃ r, f0_alikeSet_L4 N (nI p) (nI P) dr n x (nI j) = some r ∧ f9_alike_L4 N (nI p) mp mr n x (nI j) = some r := by
    intro n
    induction n with
    | zero => intro j x h1 h2; omega
    | succ n ih =>
      intro j x h1 h2
      by_cases hj : j = P
      · subst hj
        refine ⟨x, alike_end N hP _ dr (n + 1) j x (Nat.le_refl _) hP h2, ?_⟩
        rw [f9_alike_L4, gi_ok (i := 0) (by decide) (by decide), n_0, hm, if_pos (nI_le (Nat.le_refl _) (by omega))]
      · have hlt : j < P := by omega
        rw [f0_alikeSet_L4, f9_alike_L4, gi_ok (i := 0) (by decide) (by decide), n_0, hm, if_neg (c7 (by omega)), if_neg (nI_ge hlt (by omega)), part_in N hP hlt, ob1_k, if_neg (show ¬ (1 : Int32) = 0 by decide), x_gi (show j < 7 by omega) (by omega), x_rateOf N hP hp, ob1_k, x_gi (show j < 14 by omega) (by omega), x_gi (show p < 14 by omega) (by omega), cl_nI (by omega), cl_nI (by omega), (hrw j hlt).1, (hrw p hp).1, nI_1, show x ||| 0 = x from Int32.or_zero]
        by_cases c1 : nI j = nI p
        · rw [if_pos c1, if_pos c1]
          exact ih (j + 1) x hlt (by omega)
        · rw [if_neg c1, if_neg c1]
          by_cases c2 : mr j = mr p
          · rw [if_pos c2, if_pos c2]
            exact ih (j + 1) _ hlt (by omega)
          · rw [if_neg c2, if_neg c2]
            exact ih (j + 1) x hlt (by omega)
  obtain ⟨r, h1, h2⟩ := L N 0 0 (Nat.zero_le _) (by omega)
  exact ⟨r, (congrArg (fun z => ob1 z _) h1).trans rfl, (congrArg (fun z => ob1 z _) h2).trans rfl⟩
theorem q_part (N : Nat) (hN : 20 ≤ N) (p1 p2 : Int32) {P : Nat} {dp : Int32} {dr dn mp mr mw : Nat → Int32} (hc : RC P dp dr dn mp mr mw) : ∃ r, f8_part N p1 p2 dp dr dn = some r ∧ f9_part N p1 p2 mp mr mw = some r := by
  obtain ⟨hP, hdp, hm, hrw⟩ := id hc
  subst hdp
  unfold f8_part f9_part
  rw [x_part7 N p1 P hP, m_isPart N p1 mp P hP hm, ob1_k, ob1_k]
  by_cases h1 : 0 ≤ p1.toInt ∧ p1.toInt < P
  · obtain ⟨p, hp, rfl⟩ := nI_nat h1.1 h1.2
    obtain ⟨r, a1, a2⟩ := q_alike N hN hc hp
    rw [if_pos h1, if_neg (show ¬ (1 : Int32) = 0 by decide), if_neg (show ¬ (1 : Int32) = 0 by decide), x_rateOf N hP hp, ob1_k, x_gi (show p < 7 by omega) (by omega), x_gi (show p < 14 by omega) (by omega), x_gi (show p < 14 by omega) (by omega), cl_nI (by omega), (hrw p hp).1, (hrw p hp).2.1, a1, a2]
    by_cases g0 : p2 = 0
    · exact ⟨mr p, by rw [if_pos g0], by rw [if_pos g0]⟩
    · by_cases g1 : p2 = 1
      · exact ⟨mw p, by rw [if_neg g0, if_pos g1], by rw [if_neg g0, if_pos g1]⟩
      · by_cases g2 : p2 = 2
        · exact ⟨r, by rw [if_neg g0, if_neg g1, if_pos g2, ob1_k], by rw [if_neg g0, if_neg g1, if_pos g2, ob1_k]⟩
        · exact ⟨-1000000002, by rw [if_neg g0, if_neg g1, if_neg g2], by rw [if_neg g0, if_neg g1, if_neg g2]⟩
  · exact ⟨-1000000001, by rw [if_neg h1, if_pos rfl], by rw [if_neg h1, if_pos rfl]⟩
/-- do all trials fit a rate -/
def fitB (k : Nat) (d t : Nat → Int32) (r : Int32) : Nat → Prop := fun j => ∀ i, j ≤ i → i < k → d i * r = t i
theorem x_fitAll (N : Nat) {k : Nat} (hk : k ≤ 10) (d t : Nat → Int32) (r : Int32) : ∀ (n j : Nat), j ≤ k → k + 1 ≤ j + n → (fitB k d t r j ∧ f7_fitAll_L2 N r (nI k) d t n (nI j) = some 1) ∨ (¬ fitB k d t r j ∧ f7_fitAll_L2 N r (nI k) d t n (nI j) = some 0) := by
  intro n
  induction n with
  | zero => intro j h1 h2; omega
  | succ n ih =>
    intro j h1 h2
    rw [f7_fitAll_L2]
    by_cases hj : j = k
    · subst hj
      exact Or.inl ⟨fun i h3 h4 => by omega, by rw [if_pos (nI_le (Nat.le_refl _) (by omega))]⟩
    · have hlt : j < k := by omega
      rw [if_neg (nI_ge hlt (by omega)), if_neg (fun h => by rw [t_le, t_10, t_nI (by omega)] at h; omega), x_gi (by omega) (by omega), x_gi (by omega) (by omega), cl_nI (by omega), nI_1]
      by_cases c : d j * r = t j
      · rw [if_pos c]
        rcases ih (j + 1) hlt (by omega) with ⟨g1, g2⟩ | ⟨g1, g2⟩
        · exact Or.inl ⟨fun i h3 h4 => by
            by_cases e : i = j
            · rw [e]; exact c
            · exact g1 i (by omega) h4, g2⟩
        · exact Or.inr ⟨fun h => g1 (fun i h3 h4 => h i (by omega) h4), g2⟩
      · rw [if_neg c]
        exact Or.inr ⟨fun h => c (h j (Nat.le_refl _) hlt), rfl⟩
theorem m_fit0 (N : Nat) {k : Nat} (hk : k ≤ 10) (mr sd st : Nat → Int32) (p : Int32) : ∀ (n j : Nat), j ≤ k → k + 1 ≤ j + n → f9_fits_L19 N (nI k) mr sd st p n 0 (nI j) = some 0 := by
  intro n
  induction n with
  | zero => intro j h1 h2; omega
  | succ n ih =>
    intro j h1 h2
    rw [f9_fits_L19]
    by_cases hj : j = k
    · subst hj
      rw [if_pos (nI_le (Nat.le_refl _) (by omega))]
    · rw [if_neg (nI_ge (show j < k by omega) (by omega)), if_pos rfl, nI_1, ih (j + 1) (by omega) (by omega)]
theorem m_fitAll (N : Nat) {k p : Nat} (hk : k ≤ 10) (hp : p < 14) (mr sd st : Nat → Int32) : ∀ (n j : Nat), j ≤ k → k + 1 ≤ j + n → (fitB k sd st (mr p) j ∧ f9_fits_L19 N (nI k) mr sd st (nI p) n 1 (nI j) = some 1) ∨ (¬ fitB k sd st (mr p) j ∧ f9_fits_L19 N (nI k) mr sd st (nI p) n 1 (nI j) = some 0) := by
  intro n
  induction n with
  | zero => intro j h1 h2; omega
  | succ n ih =>
    intro j h1 h2
    rw [f9_fits_L19]
    by_cases hj : j = k
    · subst hj
      exact Or.inl ⟨fun i h3 h4 => by omega, by rw [if_pos (nI_le (Nat.le_refl _) (by omega))]⟩
    · have hlt : j < k := by omega
      rw [if_neg (nI_ge hlt (by omega)), if_neg (show ¬ (1 : Int32) = 0 by decide), x_gi (show j < 10 by omega) (by omega), x_gi hp (by omega), x_gi (show j < 10 by omega) (by omega), cl_nI (by omega), cl_nI (by omega), nI_1]
      by_cases c : sd j * mr p = st j
      · rw [if_pos c]
        rcases ih (j + 1) hlt (by omega) with ⟨g1, g2⟩ | ⟨g1, g2⟩
        · exact Or.inl ⟨fun i h3 h4 => by
            by_cases e : i = j
            · rw [e]; exact c
            · exact g1 i (by omega) h4, g2⟩
        · exact Or.inr ⟨fun h => g1 (fun i h3 h4 => h i (by omega) h4), g2⟩
      · rw [if_neg c, m_fit0 N hk mr sd st _ n (j + 1) hlt (by omega)]
        exact Or.inr ⟨fun h => c (h j (Nat.le_refl _) hlt), rfl⟩
theorem fits_end (N : Nat) {P : Nat} (hP : P ≤ 7) (c : Int32) (d t dr : Nat → Int32) : ∀ (n j : Nat) (x : Int32), P ≤ j → j ≤ 7 → 8 ≤ j + n → f7_fittingSet_L4 N c d t (nI P) dr n x (nI j) = some x := by
  intro n
  induction n with
  | zero => intro j x h1 h2 h3; omega
  | succ n ih =>
    intro j x h1 h2 h3
    rw [f7_fittingSet_L4]
    by_cases hj : j = 7
    · subst hj
      rw [if_pos (show (7 : Int32) ≤ nI 7 from Int32.le_refl _)]
    · rw [if_neg (c7 (by omega)), part_out N hP h1 h2, ob1_k, if_pos rfl, nI_1, ih (j + 1) x (by omega) (by omega) (by omega)]
theorem q_fits (N : Nat) (hN : 20 ≤ N) {P : Nat} {dp : Int32} {dr dn mp mr mw : Nat → Int32} (hc : RC P dp dr dn mp mr mw) {c : Int32} {d t : Nat → Int32} {sm : Int32} {sd st : Nat → Int32} (h : RTry c d t sm sd st) : ∃ r, f8_fits N dp dr c d t = some r ∧ f9_fits N sm mp mr sd st = some r := by
  obtain ⟨hP, rfl, hm, hrw⟩ := hc
  obtain ⟨k, hk, rfl, rfl, hE⟩ := h
  have L : ∀ (n j : Nat) (x : Int32), j ≤ P → 8 ≤ j + n → ∃ r, f7_fittingSet_L4 N (nI k) d t (nI P) dr n x (nI j) = some r ∧ f9_fits_L4 N (nI k) mp mr sd st n x (nI j) = some r := by
    intro n
    induction n with
    | zero => intro j x h1 h2; omega
    | succ n ih =>
      intro j x h1 h2
      by_cases hj : j = P
      · subst hj
        refine ⟨x, fits_end N hP _ d t dr (n + 1) j x (Nat.le_refl _) hP h2, ?_⟩
        rw [f9_fits_L4, gi_ok (i := 0) (by decide) (by decide), n_0, hm, if_pos (nI_le (Nat.le_refl _) (by omega))]
      · have hlt : j < P := by omega
        have hx := x_fitAll N hk d t (dr j) N 0 (Nat.zero_le _) (by omega)
        have hy := m_fitAll N hk (show j < 14 by omega) mr sd st N 0 (Nat.zero_le _) (by omega)
        have hiff : fitB k d t (dr j) 0 ↔ fitB k sd st (mr j) 0 := by
          rw [(hrw j hlt).1]
          exact ⟨fun q i h3 h4 => by rw [← (hE i h4).1, ← (hE i h4).2.1]; exact q i h3 h4, fun q i h3 h4 => by rw [(hE i h4).1, (hE i h4).2.1]; exact q i h3 h4⟩
        rw [f7_fittingSet_L4, f9_fits_L4, gi_ok (i := 0) (by decide) (by decide), n_0, hm, if_neg (c7 (by omega)), if_neg (nI_ge hlt (by omega)), part_in N hP hlt, ob1_k, if_neg (show ¬ (1 : Int32) = 0 by decide), x_rateOf N hP hlt, ob1_k, nI_1, show x ||| 0 = x from Int32.or_zero]
        unfold f7_fitAll
        rw [l_0]
        rcases hx with ⟨g1, g2⟩ | ⟨g1, g2⟩
        · rcases hy with ⟨g3, g4⟩ | ⟨g3, g4⟩
          · rw [g2, g4, ob1_k, ob1_k, if_neg (show ¬ (1 : Int32) = nI 0 by decide), if_neg (show ¬ (1 : Int32) = nI 0 by decide)]
            exact ih (j + 1) _ hlt (by omega)
          · exact absurd (hiff.mp g1) g3
        · rcases hy with ⟨g3, g4⟩ | ⟨g3, g4⟩
          · exact absurd (hiff.mpr g3) g1
          · rw [g2, g4, ob1_k, ob1_k, if_pos (show (0 : Int32) = nI 0 from rfl), if_pos (show (0 : Int32) = nI 0 from rfl)]
            exact ih (j + 1) _ hlt (by omega)
  obtain ⟨r, h1, h2⟩ := L N 0 0 (Nat.zero_le _) (by omega)
  refine ⟨r, ?_, (congrArg (fun z => ob1 z _) h2).trans rfl⟩
  unfold f8_fits f7_fittingSet
  exact (congrArg (fun z => ob1 (ob1 z _) _) h1).trans rfl
