/-- one round BY DRAWS of the reference, with what comes behind it -/
def mDr {T : Type} (N : Nat) (v_parts v_rates v_mouths v_persons v_interest : Nat → Int32) (K : Int32 → (Nat → Int32) → Option T) (v_seed_50 : Int32) (v_now_50 : Nat → Int32) : Option T :=
  gi (0 : Int32) 2 (ob2 (f9_draw N (v_persons (0 : Int32).toNatClampNeg) v_seed_50) fun r62 v_seed_62 => ob1 (f9_isDown N r62 v_now_50) fun r68 => if r68 = (0 : Int32) then (gi (0 : Int32) 2 (ob2 (f9_draw N (v_parts (0 : Int32).toNatClampNeg) v_seed_62) fun r81 v_seed_81 => ob2 (f9_draw N (9 : Int32) v_seed_81) fun r89 v_seed_89 => ob1 (f9_isMouth N r81 v_parts v_mouths) fun r99 => if r99 = (0 : Int32) then (ob2 (f9_draw N (60 : Int32) v_seed_89) fun r126 v_seed_126 => ob1 (f9_passBy N r126 v_persons v_interest v_now_50) fun v_now_129 => K v_seed_126 v_now_129) else (gi r81 14 (ob1 (f9_goIn N r62 (r89 + (1 : Int32)) ((r89 + (1 : Int32)) * (v_rates r81.toNatClampNeg)) v_now_50) fun v_now_119 => ob2 (f9_draw N (60 : Int32) v_seed_89) fun r126 v_seed_126 => ob1 (f9_passBy N r126 v_persons v_interest v_now_119) fun v_now_129 => K v_seed_126 v_now_129)))) else (ob2 (f9_draw N (60 : Int32) v_seed_62) fun r126 v_seed_126 => ob1 (f9_passBy N r126 v_persons v_interest v_now_50) fun v_now_129 => K v_seed_126 v_now_129))
theorem drift_step (N : Nat) (hN : 200000 ≤ N) {P : Nat} {drr dn mp mr mw : Nat → Int32} (hc : RC P (nI P) drr dn mp mr mw) (mm : Nat → Int32) {Q : Nat} {per : Nat → Int32} (hQ : Q ≤ 6) (hq0 : per 0 = nI Q) {i : Nat} {di : Int32} {it : Nat → Int32} (hi : RIn i di it) (hP0 : 0 < P) (hQ0 : 0 < Q)
    {d a : Nat} (hd : d + 59 ≤ 9999999) (ha : a < 2147483648) {ag ri ou now : Nat → Int32} (hf : RFo Q (nI d) ag ri ou 0 now) :
    ∃ (e s' : Nat) (ag' ri' ou' now' : Nat → Int32), e ≤ d + 59 ∧ s' < 2147483648 ∧ f2_driftOnce N (nI d) (nI a) ag ri ou (nI P) (mm 0) (nI Q) di drr = some (nI e, nI s', ag', ri', ou') ∧ (∀ (T : Type) (K : Int32 → (Nat → Int32) → Option T), mDr N mp mr mm per it K (nI a) now = K (nI s') now') ∧ RFo Q (nI e) ag' ri' ou' 0 now' ∧ ∀ k, 19 ≤ k → now' k = now k := by
  obtain ⟨hP, -, hm0, hrw⟩ := hc
  obtain ⟨q, a1, hq, ha1, x1, y1⟩ := draw_ex N hQ0 (by omega) ha
  obtain ⟨-, -, -, -, e5, -, e7⟩ := hf.2.2.2 q hq
  simp only [Nat.zero_add] at e5 e7
  by_cases g : now 0 < now (13 + q)
  · have g4 : ¬ now (13 + q) = -1 := fun e => by rw [e] at e5; exact absurd e5 (by decide)
    obtain ⟨e, s', r, ag', ri', ou', now', h1, h2, h3, h4, h5, h6, h7, h8⟩ := drift_tail N hN hQ hq0 hi hd ha1 hf
    refine ⟨e, s', ag', ri', ou', now', h1, h2, ?_, fun T K => ?_, h7, h8⟩
    · unfold f2_driftOnce
      rw [x1, ob2_k, x_isUp N (by omega), e7, if_pos g, if_neg g4, ob1_k, if_pos rfl, h3, ob2_k, h5, ob4_k]
    · unfold mDr
      rw [gi_ok (i := 0) (by decide) (by decide), n_0, hq0, y1, ob2_k, m_isDown N (by omega), if_pos g, ob1_k, if_neg (show ¬ (1 : Int32) = 0 by decide), h4, ob2_k, h6, ob1_k]
  · obtain ⟨p, a2, hp, ha2, x2, y2⟩ := draw_ex N hP0 (by omega) ha1
    obtain ⟨n9, a3, hn9, ha3, x3, y3⟩ := draw_ex N (n := 9) (by omega) (by omega) ha2
    by_cases g6 : (0 ≤ (nI p).toInt ∧ (nI p).toInt < P) ∧ bW (mm 0) (nI p)
    · obtain ⟨w1, -, r1, r2⟩ := hrw p hp
      obtain ⟨z, hz, ez⟩ := nI_nat2 (x := mr p) (M := 540) (by omega) r2
      have hz10 : 10 ≤ z := by rw [ez, t_nI (by omega)] at r1; omega
      have hlo : 1 * 10 ≤ (n9 + 1) * z := Nat.mul_le_mul (by omega) hz10
      have hhi : (n9 + 1) * z ≤ 9 * 540 := Nat.mul_le_mul (by omega) hz
      have em : (nI n9 + 1) * mr p = nI ((n9 + 1) * z) := by rw [nI_1, ez, pk_mul]
      have hR := r_goIn hQ hq hf (nI n9 + 1) (nI ((n9 + 1) * z)) (by rw [t_nI (by omega)]; omega) (by rw [t_nI (by omega)]; omega)
      obtain ⟨e, s', r, ag', ri', ou', now', h1, h2, h3, h4, h5, h6, h7, h8⟩ := drift_tail N hN hQ hq0 hi hd ha3 hR
      refine ⟨e, s', ag', ri', ou', now', h1, h2, ?_, fun T K => ?_, h7, fun k hk => by rw [h8 k hk, pk_un (by omega), pk_un (by omega)]⟩
      · unfold f2_driftOnce
        rw [x1, ob2_k, x_isUp N (by omega), e7, if_neg g, if_pos rfl, ob1_k, if_neg (show ¬ (1 : Int32) = 0 by decide), x2, ob2_k, l_9, x3, ob2_k, x_hasMouth N _ P hP, if_pos g6, ob1_k, if_neg (show ¬ (1 : Int32) = 0 by decide), x_rateOf N hP hp, ob1_k, w1, em, x_goIn N (by omega), ob2_k, h3, ob2_k, h5, ob4_k]
      · unfold mDr
        rw [gi_ok (i := 0) (n := 2) (by decide) (by decide), n_0, hq0, y1, ob2_k, m_isDown N (by omega), if_neg g, ob1_k, if_pos rfl, gi_ok (i := 0) (n := 2) (by decide) (by decide), hm0, y2, ob2_k, l_9, y3, ob2_k, m_isMouth N _ P hP mp mm hm0, if_pos g6, ob1_k, if_neg (show ¬ (1 : Int32) = 0 by decide), x_gi (by omega) (by omega), cl_nI (by omega), em, m_goIn N (by omega), ob1_k, h4, ob2_k, h6, ob1_k]
    · obtain ⟨e, s', r, ag', ri', ou', now', h1, h2, h3, h4, h5, h6, h7, h8⟩ := drift_tail N hN hQ hq0 hi hd ha3 hf
      refine ⟨e, s', ag', ri', ou', now', h1, h2, ?_, fun T K => ?_, h7, h8⟩
      · unfold f2_driftOnce
        rw [x1, ob2_k, x_isUp N (by omega), e7, if_neg g, if_pos rfl, ob1_k, if_neg (show ¬ (1 : Int32) = 0 by decide), x2, ob2_k, l_9, x3, ob2_k, x_hasMouth N _ P hP, if_neg g6, ob1_k, if_pos rfl, h3, ob2_k, h5, ob4_k]
      · unfold mDr
        rw [gi_ok (i := 0) (n := 2) (by decide) (by decide), n_0, hq0, y1, ob2_k, m_isDown N (by omega), if_neg g, ob1_k, if_pos rfl, gi_ok (i := 0) (n := 2) (by decide) (by decide), hm0, y2, ob2_k, l_9, y3, ob2_k, m_isMouth N _ P hP mp mm hm0, if_neg g6, ob1_k, if_pos rfl, h4, ob2_k, h6, ob1_k]
theorem drift_loop (N : Nat) (hN : 200000 ≤ N) {P : Nat} {drr dn mp mr mw : Nat → Int32} (hc : RC P (nI P) drr dn mp mr mw) (mm : Nat → Int32) {Q : Nat} {per : Nat → Int32} (hQ : Q ≤ 6) (hq0 : per 0 = nI Q) {i : Nat} {di : Int32} {it : Nat → Int32} (hi : RIn i di it) (hP0 : 0 < P) (hQ0 : 0 < Q) {p : Nat} (hp : p ≤ 99) :
    ∀ (n j d a : Nat) (ag ri ou now : Nat → Int32), j ≤ p → p + 1 ≤ j + n → d + 59 * (p - j) ≤ 9999999 → a < 2147483648 → RFo Q (nI d) ag ri ou 0 now →
      ∃ (e s' : Nat) (ag' ri' ou' now' : Nat → Int32), s' < 2147483648 ∧ f8_drift_L54 N (nI p) (nI P) (mm 0) (nI Q) di drr n (nI j) (nI d) (nI a) ag ri ou = some (nI e, nI s', ag', ri', ou') ∧ f9_drift_L50 N (nI p) mp mr mm per it n (nI j) (nI a) now = some (nI s', now') ∧ RFo Q (nI e) ag' ri' ou' 0 now' ∧ ∀ k, 19 ≤ k → now' k = now k := by
  intro n
  induction n with
  | zero => intro j d a ag ri ou now g1 g2; omega
  | succ n ih =>
    intro j d a ag ri ou now g1 g2 g3 g4 g5
    by_cases hj : j = p
    · subst hj
      exact ⟨d, a, ag, ri, ou, now, g4, by rw [f8_drift_L54, if_pos (nI_le (Nat.le_refl _) (by omega))], by rw [f9_drift_L50, if_pos (nI_le (Nat.le_refl _) (by omega))], g5, fun _ _ => rfl⟩
    · have hlt : j < p := by omega
      obtain ⟨e, s, ag1, ri1, ou1, now1, h1, h2, h3, h4, h5, h6⟩ := drift_step N hN hc mm hQ hq0 hi hP0 hQ0 (d := d) (by omega) g4 g5
      obtain ⟨e2, s2, ag2, ri2, ou2, now2, k1, k2, k3, k4, k5⟩ := ih (j + 1) e s ag1 ri1 ou1 now1 hlt (by omega) (by omega) h2 h5
      refine ⟨e2, s2, ag2, ri2, ou2, now2, k1, ?_, ?_, k4, fun k hk => by rw [k5 k hk, h6 k hk]⟩
      · rw [f8_drift_L54, if_neg (nI_ge hlt (by omega)), h3, ob5_k, nI_1, k2]
      · rw [f9_drift_L50, if_neg (nI_ge hlt (by omega))]
        refine Eq.trans (h4 _ (fun s w => f9_drift_L50 N (nI p) mp mr mm per it n (nI j + 1) s w)) ?_
        rw [nI_1, k3]
