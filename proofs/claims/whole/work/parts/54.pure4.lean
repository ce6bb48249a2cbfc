/-! THE STAY judged; who goes IN -/
theorem q_wrong (N : Nat) (hN : 50 ≤ N) {P : Nat} {dp : Int32} {dr dn mp mr mw : Nat → Int32} (hc : RC P dp dr dn mp mr mw) {dm : Int32} {mm : Nat → Int32} (hm : dm = mm 0) {c : Int32} {po : Nat → Int32} {sm : Int32} {st : Nat → Int32} (hs : RSt P c po sm st) :
    ∃ r : Int32, f6_wrongDay N c po dp dm dn = some r ∧ f9_wrong N sm mp mw mm st = some r := by
  obtain ⟨hP, rfl, hm0, hrw⟩ := hc
  obtain ⟨k, hk, rfl, rfl, hE⟩ := hs
  subst hm
  have hmo : ∀ x : Int32, f0_hasMouth N x (nI P) (mm 0) = f9_isMouth N x mp mm := fun x => by rw [x_hasMouth N x P hP, m_isMouth N x P hP mp mm hm0]
  have hmt : ∀ x : Int32, ∃ b : Int32, f9_isMouth N x mp mm = some b := fun x => ⟨_, m_isMouth N x P hP mp mm hm0⟩
  unfold f6_wrongDay f9_wrong
  by_cases h0 : k = 0
  · subst h0
    exact ⟨-1, by rw [if_pos (by decide)], by rw [if_pos (show nI 0 = 0 from rfl)]⟩
  · have hne : ¬ nI k = 0 := nI_ne0 (by omega) (by omega)
    have L : ∀ (n j : Nat), 1 ≤ j → j ≤ k → k + 1 ≤ j + n → ∃ r : Int32, f6_wrongDay_L36 N (nI k) po (nI P) (mm 0) dn n (nI j) = some r ∧ f9_wrong_L26 N (nI k) mp mw mm st n (nI j) = some r := by
      intro n
      induction n with
      | zero => intro j h1 h2 h3; omega
      | succ n ih =>
        intro j h1 h2 h3
        rw [f6_wrongDay_L36, f9_wrong_L26, nI_pr (show 1 ≤ k by omega), nI_pr h1]
        by_cases hj : j = k
        · subst hj
          rw [if_pos (nI_le (Nat.le_refl _) (by omega)), if_pos (nI_le (Nat.le_refl _) (by omega)), x_gi (by omega) (by omega), x_gi (by omega) (by omega), cl_nI (by omega), (hE (j - 1) (by omega)).1, hmo]
          obtain ⟨b, hb⟩ := hmt (st (j - 1))
          rw [hb]
          simp only [ob1_k]
          by_cases g : b = 0
          · exact ⟨nI j, by rw [if_pos g], by rw [if_pos g]⟩
          · exact ⟨-1, by rw [if_neg g], by rw [if_neg g]⟩
        · have hlt : j < k := by omega
          rw [if_neg (nI_ge hlt (by omega)), if_neg (nI_ge hlt (by omega))]
          simp only [x_gi (show j - 1 < 40 by omega) (show 40 < 100000 by omega), x_gi (show j < 40 by omega) (show 40 < 100000 by omega)]
          rw [cl_nI (by omega), cl_nI (by omega), (hE (j - 1) (by omega)).1, (hE j hlt).1]
          obtain ⟨a, ha, ea⟩ := (hE (j - 1) (by omega)).2
          obtain ⟨b, hb, eb⟩ := (hE j hlt).2
          rw [ea, eb, x_mayFollow N hP ha hb, m_isStep N (by omega) (by omega), (hrw a ha).2.1]
          simp only [ob1_k]
          by_cases g : a = b ∨ bW (mw a) (nI b)
          · rw [if_pos g, if_neg (by decide), nI_1]
            exact ih (j + 1) (by omega) hlt (by omega)
          · rw [if_neg g, if_pos rfl]
            exact ⟨nI j, rfl, rfl⟩
    rw [if_neg (fun q => by rw [t_lt, t_1, t_nI (by omega)] at q; omega), if_pos (by rw [t_le, t_40, t_nI (by omega)]; omega), if_neg hne, gi_ok (i := 0) (by decide) (by decide), gi_ok (i := 0) (by decide) (by decide), n_0, (hE 0 (by omega)).1, hmo]
    obtain ⟨b, hb⟩ := hmt (st 0)
    rw [hb]
    simp only [ob1_k]
    by_cases g : b = 0
    · exact ⟨0, by rw [if_pos g], by rw [if_pos g]⟩
    · rw [if_neg g, if_neg g]
      exact L N 1 (Nat.le_refl _) (by omega) (by omega)
theorem q_judge (N : Nat) (hN : 50 ≤ N) {P : Nat} {dp : Int32} {dr dn mp mr mw : Nat → Int32} (hc : RC P dp dr dn mp mr mw) {dm : Int32} {mm : Nat → Int32} (hm : dm = mm 0) {c : Int32} {po : Nat → Int32} {sm : Int32} {st : Nat → Int32} (hs : RSt P c po sm st) :
    ∃ r : Int32, f8_judge N dp dm dn c po = some r ∧ f9_judge N sm mp mw mm st = some r := by
  obtain ⟨r, h1, h2⟩ := q_wrong N hN hc hm hs
  exact ⟨r, by unfold f8_judge; rw [h1]; rfl, by unfold f9_judge; rw [h2]; rfl⟩
theorem x_isUp (N : Nat) {q : Nat} (hq : q < 6) (ou : Nat → Int32) : f2_isUp N (nI q) ou = some (if ou q = -1 then 1 else 0) := by
  unfold f2_isUp f2_isPlace
  simp only [t_lt, t_le, t_0, t_6, t_nI (show q < 2147483648 by omega)]
  rw [if_neg (by omega), if_neg (by omega)]
  simp only [ob1_k]
  rw [if_neg (by decide), x_gi (by omega) (by omega), cl_nI (by omega)]
  by_cases h : ou q = -1
  · rw [if_pos h, if_pos h]
  · rw [if_neg h, if_neg h]
theorem x_goIn (N : Nat) {q : Nat} (hq : q < 6) (d t dt : Int32) (ag ou : Nat → Int32) : f2_goIn N (nI q) d t dt ag ou = some (upd ag q (ag q + d), upd ou q (dt + t)) := by
  unfold f2_goIn f2_isPlace
  simp only [t_lt, t_le, t_0, t_6, t_nI (show q < 2147483648 by omega)]
  rw [if_neg (by omega), if_neg (by omega)]
  simp only [ob1_k]
  rw [if_neg (by decide), x_gi (by omega) (by omega), x_gi (by omega) (by omega), x_gi (by omega) (by omega), cl_nI (by omega)]
theorem m_goIn (N : Nat) {q : Nat} (hq : q < 6) (d t : Int32) (now : Nat → Int32) : f9_goIn N (nI q) d t now = some (upd (upd now (1 + q) (now (1 + q) + d)) (13 + q) (now 0 + t)) := by
  unfold f9_goIn
  rw [l_1, l_13, m_gi (by omega) (by omega), m_gi (by omega) (by omega), gi_ok (i := 0) (by decide) (by decide), m_gi (by omega) (by omega), m_cl (by omega), m_cl (by omega), n_0, pk_un (by omega)]
/-- one goes IN: the coupling holds again -/
theorem r_goIn {Q q : Nat} (hQ : Q ≤ 6) (hq : q < Q) {dt : Int32} {ag ri ou now : Nat → Int32} (hf : RFo Q dt ag ri ou 0 now) (d t : Int32) (ht0 : 0 < t.toInt) (ht1 : t.toInt ≤ 30000) :
    RFo Q dt (upd ag q (ag q + d)) ri (upd ou q (dt + t)) 0 (upd (upd now (1 + q) (now (1 + q) + d)) (13 + q) (now 0 + t)) := by
  obtain ⟨h0, h1, h2, hE⟩ := hf
  refine ⟨by rw [pk_un (by omega), pk_un (by omega)]; exact h0, h1, h2, fun p hp => ?_⟩
  obtain ⟨e1, e2, e3, e4, e5, e6, e7⟩ := hE p hp
  have hdt : (now 0 + t).toInt = (now 0).toInt + t.toInt := by
    rw [← h0]
    exact t_add (by omega) (by omega)
  have g0 : upd (upd now (1 + q) (now (1 + q) + d)) (13 + q) (now 0 + t) 0 = now 0 := by rw [pk_un (by omega), pk_un (by omega)]
  have g7 : upd (upd now (1 + q) (now (1 + q) + d)) (13 + q) (now 0 + t) (0 + 7 + p) = now (0 + 7 + p) := by rw [pk_un (by omega), pk_un (by omega)]
  by_cases e : p = q
  · subst e
    have g1 : upd (upd now (1 + p) (now (1 + p) + d)) (13 + p) (now 0 + t) (0 + 1 + p) = now (1 + p) + d := by rw [pk_un (by omega), show 0 + 1 + p = 1 + p by omega, pk_us]
    have g13 : upd (upd now (1 + p) (now (1 + p) + d)) (13 + p) (now 0 + t) (0 + 13 + p) = now 0 + t := by rw [show 0 + 13 + p = 13 + p by omega, pk_us]
    rw [g0, g7, g1, g13, pk_us, pk_us, hdt]
    rw [show now (0 + 1 + p) = now (1 + p) by rw [show 0 + 1 + p = 1 + p by omega]] at e1
    have hlt : now 0 < now 0 + t := by rw [t_lt, hdt]; omega
    rw [← h0] at hlt ⊢
    exact ⟨by rw [e1], e2, e3, e4, by omega, by omega, by rw [if_pos hlt]⟩
  · have g1 : upd (upd now (1 + q) (now (1 + q) + d)) (13 + q) (now 0 + t) (0 + 1 + p) = now (0 + 1 + p) := by rw [pk_un (by omega), pk_un (by omega)]
    have g13 : upd (upd now (1 + q) (now (1 + q) + d)) (13 + q) (now 0 + t) (0 + 13 + p) = now (0 + 13 + p) := by rw [pk_un (by omega), pk_un (by omega)]
    rw [g0, g7, g1, g13, pk_un e, pk_un e]
    exact ⟨e1, e2, e3, e4, e5, e6, e7⟩
theorem q_enter (N : Nat) (hN : 50 ≤ N) (p1 : Int32) {P : Nat} {dp : Int32} {dr dn mp mr mw : Nat → Int32} (hc : RC P dp dr dn mp mr mw) {dm : Int32} {mm : Nat → Int32} (hm : dm = mm 0) {c : Int32} {po : Nat → Int32} {sm : Int32} {st : Nat → Int32} (hs : RSt P c po sm st)
    {Q : Nat} {dq : Int32} {per : Nat → Int32} (hp : RPe Q dq per) {dt : Int32} {ag ri ou now : Nat → Int32} (hf : RFo Q dt ag ri ou 0 now) :
    ∃ (r : Int32) (ag' ou' now' : Nat → Int32), f8_enter N p1 dp dm dq dr dn c po dt ag ou = some (r, ag', ou') ∧ f9_enter N p1 sm mp mr mw mm per now st = some (r, now') ∧ RFo Q dt ag' ri ou' 0 now' ∧ (∀ j, 20 ≤ j → now' j = now j) ∧ now' 19 = now 19 := by
  obtain ⟨hQ, hdq, hq0⟩ := id hp
  obtain ⟨rw_, hw1, hw2⟩ := q_wrong N hN hc hm hs
  obtain ⟨rt, ht1, ht2, k, hk, hck, ht3, ht4⟩ := q_time N hN hc hs
  have hsm : sm = c := by obtain ⟨k9, -, e1, e2, -⟩ := hs; rw [e1, e2]
  subst hsm
  subst hdq
  unfold f8_enter f9_enter
  rw [x_hasPerson N p1 Q hQ, m_isPerson N p1 per Q hQ hq0, hw1, hw2, ht1, ht2]
  simp only [ob1_k, b_z, ite_not]
  by_cases h1 : 0 ≤ p1.toInt ∧ p1.toInt < Q
  · obtain ⟨q, hq, rfl⟩ := nI_nat h1.1 h1.2
    obtain ⟨-, -, -, -, e5, -, e7⟩ := hf.2.2.2 q hq
    simp only [Nat.zero_add] at e5 e7
    rw [if_pos h1, if_pos h1, x_isUp N (by omega), m_isDown N (by omega), e7]
    simp only [ob1_k]
    by_cases h2 : now 0 < now (13 + q)
    · have g4 : ¬ now (13 + q) = -1 := fun e => by rw [e] at e5; exact absurd e5 (by decide)
      refine ⟨-1000000003, ag, ou, now, ?_, ?_, hf, fun _ _ => rfl, rfl⟩
      · rw [if_pos h2, if_neg g4, if_pos rfl]
      · rw [if_pos h2, if_neg (by decide)]
    · rw [if_neg h2, if_pos rfl, if_neg (show ¬ (1 : Int32) = 0 by decide), if_neg h2, if_pos rfl]
      by_cases h3 : sm = 0
      · exact ⟨-1000000003, ag, ou, now, by rw [if_pos h3], by rw [if_pos h3], hf, fun _ _ => rfl, rfl⟩
      · rw [if_neg h3, if_neg h3]
        by_cases h4 : rw_ = -1
        · rw [if_pos h4, if_pos h4, x_goIn N (by omega), m_goIn N (by omega)]
          simp only [ob1_k, ob2_k]
          rw [x_gi (by omega) (by omega), l_13, m_gi (by omega) (by omega), m_cl (by omega), cl_nI (by omega), pk_us, pk_us]
          have hk0 : 0 < k := by
            rcases Nat.eq_zero_or_pos k with e | e
            · subst e; exact absurd hck h3
            · exact e
          refine ⟨dt + rt, _, _, _, rfl, ?_, r_goIn hQ hq hf sm rt (by omega) (by omega), fun j hj => ?_, ?_⟩
          · rw [hf.1]
          · rw [pk_un (by omega), pk_un (by omega)]
          · rw [pk_un (by omega), pk_un (by omega)]
        · exact ⟨-1000000003, ag, ou, now, by rw [if_neg h4], by rw [if_neg h4], hf, fun _ _ => rfl, rfl⟩
  · exact ⟨-1000000001, ag, ou, now, by rw [if_neg h1], by rw [if_neg h1], hf, fun _ _ => rfl, rfl⟩
