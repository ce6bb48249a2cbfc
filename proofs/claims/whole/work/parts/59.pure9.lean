theorem q_drift (N : Nat) (hN : 200000 ≤ N) (p1 : Int32) {P : Nat} {dp : Int32} {drr dn mp mr mw : Nat → Int32} (hc : RC P dp drr dn mp mr mw) {dm : Int32} {mm : Nat → Int32} (hm : dm = mm 0) {Q : Nat} {dq : Int32} {per : Nat → Int32} (hp : RPe Q dq per) {i : Nat} {di : Int32} {it : Nat → Int32} (hi : RIn i di it)
    {dt : Int32} {ag ri ou now : Nat → Int32} (hf : RFo Q dt ag ri ou 0 now) {sd : Int32} (hs : 0 ≤ sd.toInt) :
    ∃ r dt' sd' ag' ri' ou' now', f8_drift N p1 dp dm dq di drr dt sd ag ri ou = some (r, dt', sd', ag', ri', ou') ∧ f9_drift N p1 sd mp mr mm per it now = some (r, sd', now') ∧ RFo Q dt' ag' ri' ou' 0 now' ∧ 0 ≤ sd'.toInt ∧ ∀ j, 19 ≤ j → now' j = now j := by
  obtain ⟨hP, hdp, hm0, hrw⟩ := id hc
  obtain ⟨hQ, hdq, hq0⟩ := id hp
  subst hm hdp hdq
  obtain ⟨d0, hd0, rfl⟩ := nI_nat2 (M := 9999999) hf.2.1 hf.2.2.1
  obtain ⟨a0, ha0, rfl⟩ := nI_nat2 (M := 2147483647) hs (by have := (t_rng sd).2; omega)
  have k0 : now 0 = nI d0 := hf.1.symm
  unfold f8_drift f9_drift
  rw [m_in, ob1_k, n_0, hm0, hq0, k0]
  by_cases h1 : 1 ≤ p1.toInt ∧ p1.toInt ≤ 99
  · obtain ⟨p, hpp, rfl⟩ := nI_nat2 (M := 99) (by omega) h1.2
    have c1 : ¬ nI p < (1 : Int32) := fun h => by rw [t_lt, t_1] at h; omega
    have c2 : nI p ≤ (99 : Int32) := by rw [t_le]; exact h1.2
    have c3 : (1 : Int32).toInt ≤ (nI p).toInt ∧ (nI p).toInt ≤ (99 : Int32).toInt := h1
    rw [if_neg c1, if_pos c2, if_pos c3, if_neg (show ¬ (1 : Int32) = 0 by decide), gi_ok (i := 0) (n := 2) (by decide) (by decide)]
    by_cases h2 : P = 0
    · subst h2
      exact ⟨-1000000003, nI d0, nI a0, ag, ri, ou, now, by rw [if_pos (show nI 0 = 0 from rfl)], by rw [if_pos (show nI 0 = 0 from rfl)], hf, hs, fun _ _ => rfl⟩
    · have nP : ¬ nI P = 0 := nI_ne0 (by omega) (by omega)
      rw [if_neg nP, if_neg nP, gi_ok (i := 0) (n := 2) (by decide) (by decide)]
      by_cases h3 : Q = 0
      · subst h3
        exact ⟨-1000000003, nI d0, nI a0, ag, ri, ou, now, by rw [if_pos (show nI 0 = 0 from rfl)], by rw [if_pos (show nI 0 = 0 from rfl)], hf, hs, fun _ _ => rfl⟩
      · have nQ : ¬ nI Q = 0 := nI_ne0 (by omega) (by omega)
        rw [if_neg nQ, if_neg nQ, gi_ok (i := 0) (n := 60) (by decide) (by decide)]
        by_cases h4 : d0 ≤ 9990000
        · have c4 : nI d0 ≤ (9990000 : Int32) := by rw [t_le, t_nI (by omega)]; exact (by omega : (d0 : Int) ≤ 9990000)
          rw [if_pos c4, if_pos c4]
          obtain ⟨e, s', ag', ri', ou', now', v0, v1, v2, v3, v4⟩ := drift_loop N hN hc mm hQ hq0 hi (by omega) (by omega) (p := p) hpp N 0 d0 a0 ag ri ou now (Nat.zero_le _) (by omega) (by omega) (by omega) hf
          refine ⟨nI e, nI e, nI s', ag', ri', ou', now', ?_, ?_, v3, by rw [t_nI (by omega)]; omega, v4⟩
          · exact (congrArg (fun z => ob5 z _) v1).trans rfl
          · refine (congrArg (fun z => ob2 z _) v2).trans ?_
            rw [ob2_k, gi_ok (i := 0) (n := 60) (by decide) (by decide), show now' 0 = nI e from v3.1.symm]
        · have c4 : ¬ nI d0 ≤ (9990000 : Int32) := fun h => by
            rw [t_le, t_nI (by omega)] at h
            have h' : (d0 : Int) ≤ 9990000 := h
            omega
          exact ⟨-1000000004, nI d0, nI a0, ag, ri, ou, now, by rw [if_neg c4], by rw [if_neg c4], hf, hs, fun _ _ => rfl⟩
  · have c3 : ¬ ((1 : Int32).toInt ≤ p1.toInt ∧ p1.toInt ≤ (99 : Int32).toInt) := h1
    refine ⟨-1000000002, nI d0, nI a0, ag, ri, ou, now, ?_, by rw [if_neg c3, if_pos rfl], hf, hs, fun _ _ => rfl⟩
    by_cases h3 : p1 < (1 : Int32)
    · rw [if_pos h3]
    · rw [if_neg h3, if_neg (fun h => h1 ⟨by rw [t_lt, t_1] at h3; omega, by rw [t_le] at h; exact h⟩)]
/-! IMAGES -/
theorem x_copyL (N : Nat) (ag ri ou : Nat → Int32) : ∀ (n j : Nat) (a r o : Nat → Int32), j ≤ 6 → 7 ≤ j + n →
    ∃ a' r' o', f2_copyFrom_L18 N ag ri ou n (nI j) a r o = some (a', r', o') ∧ (∀ q, j ≤ q → q < 6 → a' q = ag q ∧ r' q = ri q ∧ o' q = ou q) ∧ (∀ q, q < j → a' q = a q ∧ r' q = r q ∧ o' q = o q) := by
  intro n
  induction n with
  | zero => intro j a r o h1 h2; omega
  | succ n ih =>
    intro j a r o h1 h2
    rw [f2_copyFrom_L18]
    by_cases hj : j = 6
    · subst hj
      exact ⟨a, r, o, by rw [if_pos (show (6 : Int32) ≤ nI 6 from Int32.le_refl _)], fun q h3 h4 => by omega, fun _ _ => ⟨rfl, rfl, rfl⟩⟩
    · rw [if_neg (fun h => by rw [t_le, t_6, t_nI (by omega)] at h; omega)]
      simp only [x_gi (show j < 6 by omega) (show 6 < 100000 by omega)]
      rw [cl_nI (by omega), nI_1]
      obtain ⟨a', r', o', e1, e2, e3⟩ := ih (j + 1) (upd a j (ag j)) (upd r j (ri j)) (upd o j (ou j)) (by omega) (by omega)
      refine ⟨a', r', o', e1, fun q h3 h4 => ?_, fun q h3 => ?_⟩
      · by_cases e : q = j
        · subst e
          obtain ⟨g1, g2, g3⟩ := e3 q (by omega)
          rw [g1, g2, g3, pk_us, pk_us, pk_us]
          exact ⟨rfl, rfl, rfl⟩
        · exact e2 q (by omega) h4
      · obtain ⟨g1, g2, g3⟩ := e3 q (by omega)
        rw [g1, g2, g3, pk_un (by omega), pk_un (by omega), pk_un (by omega)]
        exact ⟨rfl, rfl, rfl⟩
theorem x_copyFrom (N : Nat) (hN : 10 ≤ N) (d s : Int32) (a r o : Nat → Int32) (dt sd : Int32) (ag ri ou : Nat → Int32) : ∃ a' r' o', f2_copyFrom N d s a r o dt sd ag ri ou = some (dt, sd, a', r', o') ∧ ∀ q, q < 6 → a' q = ag q ∧ r' q = ri q ∧ o' q = ou q := by
  obtain ⟨a', r', o', e1, e2, -⟩ := x_copyL N ag ri ou N 0 a r o (by omega) (by omega)
  exact ⟨a', r', o', (congrArg (fun z => ob3 z _) e1).trans rfl, fun q hq => e2 q (Nat.zero_le _) hq⟩
theorem m_copyL (N : Nat) {f t : Nat} (hf : f + 20 ≤ 60) (ht : t + 20 ≤ 60) (hft : f + 20 ≤ t ∨ t + 20 ≤ f) : ∀ (n j : Nat) (now : Nat → Int32), j ≤ 20 → 21 ≤ j + n →
    ∃ now', f9_copy_L2 N (nI f) (nI t) n (nI j) now = some now' ∧ (∀ k, j ≤ k → k < 20 → now' (t + k) = now (f + k)) ∧ (∀ k, (k < t + j ∨ t + 20 ≤ k) → now' k = now k) := by
  intro n
  induction n with
  | zero => intro j now h1 h2; omega
  | succ n ih =>
    intro j now h1 h2
    rw [f9_copy_L2]
    by_cases hj : j = 20
    · subst hj
      exact ⟨now, by rw [if_pos (show (20 : Int32) ≤ nI 20 from Int32.le_refl _)], fun k h3 h4 => by omega, fun _ _ => rfl⟩
    · rw [if_neg (fun h => by rw [t_le, t_nI (by omega)] at h; exact absurd (show (20 : Int) ≤ (j : Int) from h) (by omega))]
      rw [m_gi (by omega) (by omega), m_gi (by omega) (by omega), m_cl (by omega), m_cl (by omega), nI_1]
      obtain ⟨now', e1, e2, e3⟩ := ih (j + 1) (upd now (t + j) (now (f + j))) (by omega) (by omega)
      refine ⟨now', e1, fun k h3 h4 => ?_, fun k h3 => ?_⟩
      · by_cases e : k = j
        · subst e
          rw [e3 (t + k) (by omega), pk_us]
        · rw [e2 k (by omega) h4, pk_un (by omega)]
      · rw [e3 k (by omega), pk_un (by omega)]
theorem m_copy (N : Nat) (hN : 30 ≤ N) {f t : Nat} (hf : f + 20 ≤ 60) (ht : t + 20 ≤ 60) (hft : f + 20 ≤ t ∨ t + 20 ≤ f) (now : Nat → Int32) : ∃ now', f9_copy N (nI f) (nI t) now = some now' ∧ (∀ k, k < 20 → now' (t + k) = now (f + k)) ∧ (∀ k, (k < t ∨ t + 20 ≤ k) → now' k = now k) := by
  obtain ⟨now', e1, e2, e3⟩ := m_copyL N hf ht hft N 0 now (by omega) (by omega)
  exact ⟨now', (congrArg (fun z => ob1 z _) e1).trans rfl, fun k hk => e2 k (Nat.zero_le _) hk, fun k hk => e3 k (by omega)⟩
