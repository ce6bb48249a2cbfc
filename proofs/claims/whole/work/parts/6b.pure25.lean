theorem ex_cell (N : Nat) (hN : 200 ≤ N) {W d j P to : Nat} (hW1 : 1 ≤ W) (hW : W ≤ 94) (h1 : 1 ≤ d) (hd : d ≤ 40) {dr dn mp mr mw : Nat → Int32} (hc : RC P (nI P) dr dn mp mr mw) (hj : j < P) (hto : to < P) (tm : Nat → Nat → Int64) (rs : Nat → Int64) (hA : xA (d - 1) W P (exT P (rhoN mr) mw to) tm) :
    ∃ rs' tm', f1_layRest N (nI to) (nI d) (nI j) (nI W) tm rs (nI P) dn = some rs' ∧ f1_layShifted N (nI d) (nI j) (dr j) (nI W) tm rs' = some tm' ∧ (∀ t, t < 64 * W → (tbF (tm' (7 * d + j)) t = true ↔ exT P (rhoN mr) mw to d j t)) ∧ ∀ i, i ≠ 7 * d + j → tm' i = tm i := by
  have hr := hc.h
  have hP := hc.1
  obtain ⟨r1, r2, -, -⟩ := hc.2.2.2 j hj
  obtain ⟨c1, c2, c3, -⟩ := rhoN_at hr hj
  obtain ⟨rs', e1, e2⟩ := ex_layRest N hN hW1 hW h1 hd hP hj hto tm rs dn
  obtain ⟨tm', g1, g2, -, g4⟩ := ex_shL N hW hd (show j < 7 by omega) c2 rs' W 0 N tm (by omega) (by omega)
  refine ⟨rs', tm', e1, ?_, fun t ht => ?_, g4⟩
  · unfold f1_layShifted
    rw [nI_0] at g1
    rw [ex_row N h1 hd (by omega), ob1_k, if_neg (by decide), r1, c3, if_pos (by rw [t_le, t_0, t_nI (by omega)]; omega), row_ix, x_gi (by omega) (by omega), g1]
    rfl
  · have hb : t % 64 < 64 := Nat.mod_lt _ (by omega)
    have b : tbF (tm' (7 * d + j)) t = (decide (rhoN mr j ≤ t) && tbF rs' (t - rhoN mr j)) := by
      unfold tbF
      rw [g2 (t / 64) (Nat.zero_le _) (by omega), shW_bit rs' hb, show 64 * (t / 64) + t % 64 = t by omega]
      rfl
    rw [b, Bool.and_eq_true, decide_eq_true_iff, e2 (t - rhoN mr j) (by omega), r2]
    by_cases z : d = 1
    · subst z
      rw [exT]
      constructor
      · rintro ⟨a1, (⟨-, a2, a3⟩ | ⟨a2, -⟩)⟩
        · exact ⟨a2, by omega⟩
        · omega
      · rintro ⟨a1, a2⟩
        exact ⟨by omega, Or.inl ⟨rfl, a1, by omega⟩⟩
    · obtain ⟨d', rfl⟩ : ∃ d', d = d' + 2 := ⟨d - 2, by omega⟩
      rw [exT]
      constructor
      · rintro ⟨a1, (⟨a2, -⟩ | ⟨-, q, q1, q2, q3⟩)⟩
        · omega
        · exact ⟨a1, q, q1, q2, (hA (d' + 1) q (t - rhoN mr j) (by omega) (by omega) q1 (by omega)).mp q3⟩
      · rintro ⟨a1, q, q1, q2, q3⟩
        exact ⟨a1, Or.inr ⟨by omega, q, q1, q2, (hA (d' + 1) q (t - rhoN mr j) (by omega) (by omega) q1 (by omega)).mpr q3⟩⟩
theorem ex_dayL (N : Nat) (hN : 200 ≤ N) {T d P to : Nat} (hT : T ≤ 6000) (h1 : 1 ≤ d) (hd : d ≤ 40) {dr dn mp mr mw : Nat → Int32} (hc : RC P (nI P) dr dn mp mr mw) (hto : to < P) : ∀ (k j n : Nat) (tm : Nat → Nat → Int64) (rs : Nat → Int64), j + k = 7 → k < n → xA (d - 1) (T / 64 + 1) P (exT P (rhoN mr) mw to) tm →
    ∃ tm' rs', f1_daysMaking_L27 N (nI to) (nI T) (nI P) dr dn (nI d) n (nI j) tm rs = some (tm', rs') ∧ (∀ p, j ≤ p → p < P → ∀ t, t < 64 * (T / 64 + 1) → (tbF (tm' (7 * d + p)) t = true ↔ exT P (rhoN mr) mw to d p t)) ∧ ∀ i, i < 7 * d + j ∨ 7 * d + 7 ≤ i → tm' i = tm i := by
  have hP := hc.1
  intro k
  induction k with
  | zero =>
    intro j n tm rs hj hn hA
    obtain ⟨n, rfl⟩ : ∃ n', n = n' + 1 := ⟨n - 1, by omega⟩
    exact ⟨tm, rs, by rw [f1_daysMaking_L27, if_pos (by rw [t_le, t_nI (by omega), t_7]; omega)], fun p a1 a2 => by omega, fun _ _ => rfl⟩
  | succ k ih =>
    intro j n tm rs hj hn hA
    obtain ⟨n, rfl⟩ : ∃ n', n = n' + 1 := ⟨n - 1, by omega⟩
    rw [f1_daysMaking_L27, if_neg (c7 (by omega)), ex_words hT]
    by_cases c : j < P
    · obtain ⟨rs1, tm1, e1, e2, e3, e4⟩ := ex_cell N hN (show 1 ≤ T / 64 + 1 by omega) (show T / 64 + 1 ≤ 94 by omega) h1 hd hc c hto tm rs hA
      obtain ⟨tm', rs', g1, g2, g3⟩ := ih (j + 1) n tm1 rs1 (by omega) (by omega) (fun e p t a1 a2 a3 a4 => by
        rw [e4 (7 * e + p) (by omega)]
        exact hA e p t a1 a2 a3 a4)
      rw [part_in N hP c, ob1_k, if_neg (by decide), e1, ob1_k, x_rateOf N hP c, ob1_k, e2, ob1_k, nI_1]
      refine ⟨tm', rs', g1, fun p a1 a2 t a3 => ?_, fun i hi => ?_⟩
      · by_cases z : p = j
        · subst z
          rw [g3 (7 * d + p) (Or.inl (by omega))]
          exact e3 t a3
        · exact g2 p (by omega) a2 t a3
      · rw [g3 i (by omega), e4 i (by omega)]
    · obtain ⟨tm', rs', g1, g2, g3⟩ := ih (j + 1) n tm rs (by omega) (by omega) hA
      rw [part_out N hP (by omega) (by omega), ob1_k, if_pos rfl, nI_1]
      exact ⟨tm', rs', g1, fun p a1 a2 => by omega, fun i hi => g3 i (by omega)⟩
theorem ex_days (N : Nat) (hN : 200 ≤ N) {T P to a : Nat} (hT : T ≤ 6000) {dr dn mp mr mw : Nat → Int32} (hc : RC P (nI P) dr dn mp mr mw) (hto : to < P) (ha : a < P) (tm : Nat → Nat → Int64) (rs : Nat → Int64) :
    ∃ r tm' rs', f1_daysMaking N (nI a) (nI to) (nI T) tm rs (nI P) dr dn = some (r, tm', rs') ∧ rcR (fun d => exT P (rhoN mr) mw to d a T) r ∧ (∀ d : Nat, d ≤ 40 → r = nI d → xA d (T / 64 + 1) P (exT P (rhoN mr) mw to) tm') := by
  have hP := hc.1
  have H : ∀ (k e n : Nat) (tm : Nat → Nat → Int64) (rs : Nat → Int64), e + k = 41 → 1 ≤ e → k < n → xA (e - 1) (T / 64 + 1) P (exT P (rhoN mr) mw to) tm → (∀ d, 1 ≤ d → d < e → ¬ exT P (rhoN mr) mw to d a T) →
      ∃ r tm' rs', f1_daysMaking_L17 N (nI a) (nI to) (nI T) (nI P) dr dn n (nI e) tm rs = some (r, tm', rs') ∧ rcR (fun d => exT P (rhoN mr) mw to d a T) r ∧ (∀ d : Nat, d ≤ 40 → r = nI d → xA d (T / 64 + 1) P (exT P (rhoN mr) mw to) tm') := by
    intro k
    induction k with
    | zero =>
      intro e n tm rs he h1 hn hA hno
      obtain ⟨n, rfl⟩ : ∃ n', n = n' + 1 := ⟨n - 1, by omega⟩
      exact ⟨-1, tm, rs, by rw [f1_daysMaking_L17, if_pos (by rw [t_lt, t_40, t_nI (by omega)]; omega)], Or.inr ⟨rfl, fun d h2 h3 => hno d h2 (by omega)⟩, fun d h2 h3 => absurd h3.symm (nI_nm1 (by omega))⟩
    | succ k ih =>
      intro e n tm rs he h1 hn hA hno
      obtain ⟨n, rfl⟩ : ∃ n', n = n' + 1 := ⟨n - 1, by omega⟩
      obtain ⟨tm1, rs1, g1, g2, g3⟩ := ex_dayL N hN hT h1 (show e ≤ 40 by omega) hc hto 7 0 N tm rs (by omega) (by omega) hA
      rw [nI_0] at g1
      have g4 : xA e (T / 64 + 1) P (exT P (rhoN mr) mw to) tm1 := fun d p t a1 a2 a3 a4 => by
        by_cases z : d = e
        · subst z
          exact g2 p (Nat.zero_le _) a3 t a4
        · rw [g3 (7 * d + p) (Or.inl (by omega))]
          exact hA d p t a1 (by omega) a3 a4
      rw [f1_daysMaking_L17, if_neg (by rw [t_lt, t_40, t_nI (by omega)]; omega), g1, ob2_k, ex_can N h1 (by omega) (by omega) hT, ob1_k, nI_1]
      have w := g4 e a T h1 (Nat.le_refl _) ha (by omega)
      by_cases c : tbF (tm1 (7 * e + a)) T = true
      · rw [if_pos c, if_neg (by decide)]
        refine ⟨nI e, tm1, rs1, rfl, Or.inl ⟨e, h1, by omega, rfl, w.mp c, fun d h2 h3 => hno d h2 h3⟩, fun d h2 h3 => ?_⟩
        rw [(nI_eq (by omega) (by omega)).mp h3] at g4
        exact g4
      · rw [if_neg c, if_pos rfl]
        refine ih (e + 1) n tm1 rs1 (by omega) (by omega) (by omega) g4 (fun d h2 h3 => ?_)
        by_cases z : d = e
        · rw [z]
          exact fun h => c (w.mpr h)
        · exact hno d h2 (by omega)
  obtain ⟨r, tm', rs', e1, e2, e3⟩ := H 40 1 N tm rs (by omega) (by omega) (by omega) (fun d p t a1 a2 a3 a4 => by omega) (fun d h2 h3 => by omega)
  exact ⟨r, tm', rs', e1, e2, e3⟩
/-- what can be made in so many days from a part with so much left -/
def eG (E : Nat → Nat → Nat → Prop) (d q : Nat) (x : Int) : Prop := 0 ≤ x ∧ E d q x.toNat
theorem eG_next {P : Nat} {r w : Nat → Int32} {to : Nat} (hr : spH P r) : hasNext (eG (exT P (rhoN r) w to)) (stM w) P (fun p => (r p).toInt) := by
  intro e p x hp h1 he h
  obtain ⟨e, rfl⟩ : ∃ e', e = e' + 1 := ⟨e - 1, by omega⟩
  obtain ⟨c1, c2, c3, c4⟩ := rhoN_at hr hp
  obtain ⟨h0, h⟩ := h
  rw [exT] at h
  obtain ⟨a1, q, a2, a3, a4⟩ := h
  refine ⟨q, a2, a3, ?_, ?_⟩
  · show 0 ≤ x - (r p).toInt
    rw [c4]
    omega
  · show exT P (rhoN r) w to (e + 1) q (x - (r p).toInt).toNat
    rw [c4, show (x - (rhoN r p : Int)).toNat = x.toNat - rhoN r p by omega]
    exact a4
theorem ex_canG (N : Nat) {d q P D W : Nat} (h1 : 1 ≤ d) (hd : d ≤ 40) (hdD : d ≤ D) (hq : q < P) (hP : P ≤ 7) {E : Nat → Nat → Nat → Prop} {tm : Nat → Nat → Int64} (hA : xA D W P E tm) {T : Int32} (hT : T.toInt ≤ 6000) (hW : T.toInt < 64 * W) : (eG E d q T.toInt ∧ f1_canMake N (nI d) (nI q) T tm = some 1) ∨ (¬ eG E d q T.toInt ∧ f1_canMake N (nI d) (nI q) T tm = some 0) := by
  by_cases c : 0 ≤ T.toInt
  · obtain ⟨t, ht, rfl⟩ := nI_nat2 (M := 6000) c hT
    rw [t_nI (by omega)] at hW
    rw [ex_can N h1 hd (by omega) ht]
    have w := hA d q t h1 hdD hq (by omega)
    have e : eG E d q (nI t).toInt ↔ E d q t := by
      unfold eG
      rw [t_nI (by omega)]
      exact ⟨fun h => h.2, fun h => ⟨by omega, h⟩⟩
    rw [e, ← w]
    by_cases z : tbF (tm (7 * d + q)) t = true
    · exact Or.inl ⟨z, by rw [if_pos z]⟩
    · exact Or.inr ⟨z, by rw [if_neg z]⟩
  · exact Or.inr ⟨fun h => c h.1, ex_canNeg N h1 hd (by omega) (by omega) tm⟩
theorem ex_first (N : Nat) {P e p q D W : Nat} (hP : P ≤ 7) (hp : p < P) (h1 : 1 ≤ e) (he : e ≤ 40) (heD : e ≤ D) {tm : Nat → Nat → Int64} {E : Nat → Nat → Nat → Prop} (hA : xA D W P E tm) {T : Int32} (hT : T.toInt ≤ 6000) (hW : T.toInt < 64 * W) (dn : Nat → Int32) (hq : q < P) (hs : spS (dn p) p q) (hg : eG E e q T.toInt) (hno : ∀ q', q' < q → ¬ (spS (dn p) p q' ∧ eG E e q' T.toInt)) : ∀ (k j n : Nat), j + k = q → k < n → f1_firstMaking_L3 N (nI p) (nI e) T tm (nI P) dn n (nI j) = some (nI q) := by
  intro k
  induction k with
  | zero =>
    intro j n hj hn
    obtain ⟨n, rfl⟩ : ∃ n', n = n' + 1 := ⟨n - 1, by omega⟩
    have e0 : j = q := by omega
    subst e0
    rcases ex_canG N h1 he heD hq hP hA hT hW with ⟨g, cm⟩ | ⟨g, cm⟩
    · rw [f1_firstMaking_L3, if_neg (c7 (by omega)), x_mayFollow N hP hp hq, ob1_k, if_pos hs, if_neg (by decide), cm, ob1_k, if_neg (by decide)]
    · exact absurd hg g
  | succ k ih =>
    intro j n hj hn
    obtain ⟨n, rfl⟩ : ∃ n', n = n' + 1 := ⟨n - 1, by omega⟩
    have no := hno j (by omega)
    rw [f1_firstMaking_L3, if_neg (c7 (by omega)), x_mayFollow N hP hp (by omega), ob1_k, nI_1]
    by_cases c : spS (dn p) p j
    · rcases ex_canG N h1 he heD (show j < P by omega) hP hA hT hW with ⟨g, cm⟩ | ⟨g, cm⟩
      · exact absurd ⟨c, g⟩ no
      · rw [if_pos c, if_neg (by decide), cm, ob1_k, if_pos rfl]
        exact ih (j + 1) n (by omega) (by omega)
    · rw [if_neg c, if_pos rfl]
      exact ih (j + 1) n (by omega) (by omega)
theorem ex_pod (N : Nat) (hN : 60 ≤ N) {P : Nat} {dr dn mp mr mw : Nat → Int32} (hc : RC P (nI P) dr dn mp mr mw) {to p0 D i W : Nat} (hD : D ≤ 40) (h0 : p0 < P) {X0 : Int32} (hx0 : 0 ≤ X0.toInt) (hx1 : X0.toInt ≤ 6000) (hW : X0.toInt < 64 * W) (hG : eG (exT P (rhoN mr) mw to) D p0 X0.toInt) {tm : Nat → Nat → Int64} (hA : xA D W P (exT P (rhoN mr) mw to) tm) (hi : i < D) :
    ∃ (a : Nat) (y : Int), f1_partOfDay N (nI p0) X0 (nI D) (nI i) tm (nI P) dr dn = some (nI a) ∧ chP (eG (exT P (rhoN mr) mw to)) (stM mw) P (fun p => (mr p).toInt) D p0 X0.toInt i a y := by
  have hr := hc.h
  have hP := hc.1
  have hρ : ∀ p, p < P → 0 ≤ (mr p).toInt ∧ (mr p).toInt ≤ 540 := fun p hp => by
    obtain ⟨c, c1, c2, c3⟩ := hr.2 p hp
    rw [c3, t_nI (by omega)]
    omega
  have H : ∀ (k j n p : Nat) (X : Int32), j + k = i → k < n → chP (eG (exT P (rhoN mr) mw to)) (stM mw) P (fun p => (mr p).toInt) D p0 X0.toInt j p X.toInt → ∃ (a : Nat) (y : Int), f1_partOfDay_L9 N (nI D) (nI i) tm (nI P) dr dn n (nI p) X (nI j) = some (nI a) ∧ chP (eG (exT P (rhoN mr) mw to)) (stM mw) P (fun p => (mr p).toInt) D p0 X0.toInt i a y := by
    intro k
    induction k with
    | zero =>
      intro j n p X hj hn hch
      obtain ⟨n, rfl⟩ : ∃ n', n = n' + 1 := ⟨n - 1, by omega⟩
      have e : j = i := by omega
      subst e
      exact ⟨p, X.toInt, by rw [f1_partOfDay_L9, if_pos (nI_le (Nat.le_refl _) (by omega))], hch⟩
    | succ k ih =>
      intro j n p X hj hn hch
      obtain ⟨n, rfl⟩ : ∃ n', n = n' + 1 := ⟨n - 1, by omega⟩
      obtain ⟨b1, b2, b3⟩ := chP_rng h0 hρ j p X.toInt hch
      obtain ⟨s1, s2⟩ := hρ p b1
      obtain ⟨r1, r2, -, -⟩ := hc.2.2.2 p b1
      obtain ⟨q, a1, a2, a3, a4, a5⟩ := chP_next (eG_next hr) hD h0 hG hch (by omega)
      have hX : (X - mr p).toInt = X.toInt - (mr p).toInt := t_sub (by omega) (by omega)
      have a3' : eG (exT P (rhoN mr) mw to) (D - (j + 1)) q (X - mr p).toInt := by rw [hX]; exact a3
      have a4' : ∀ q', q' < q → ¬ (spS (dn p) p q' ∧ eG (exT P (rhoN mr) mw to) (D - (j + 1)) q' (X - mr p).toInt) := fun q' h => by rw [hX, r2]; exact a4 q' h
      have ff : f1_firstMaking N (nI p) (nI (D - (j + 1))) (X - mr p) tm (nI P) dn = some (nI q) := by
        unfold f1_firstMaking
        rw [← nI_0]
        exact ex_first N hP b1 (by omega) (by omega) (by omega) hA (by omega) (by omega) dn a1 (by rw [r2]; exact a2) a3' a4' q 0 N (by omega) (by omega)
      rw [f1_partOfDay_L9, if_neg (nI_ge (by omega) (by omega)), if_neg (by rw [t_le, t_40, t_nI (by omega)]; omega), x_rateOf N hP b1, ob1_k, r1, nI_pr (by omega), pk_sub (by omega), show D - 1 - j = D - (j + 1) by omega, ff, ob1_k, nI_1]
      exact ih (j + 1) n q (X - mr p) (by omega) (by omega) (by rw [hX]; exact a5)
  obtain ⟨a, y, e1, e2⟩ := H i 0 N p0 X0 (by omega) (by omega) ⟨rfl, rfl⟩
  refine ⟨a, y, ?_, e2⟩
  unfold f1_partOfDay
  rw [← nI_0, e1]
  rfl
