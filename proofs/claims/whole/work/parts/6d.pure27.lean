theorem ft_cell (N : Nat) (hN : 200 ≤ N) {d j P to : Nat} (h1 : 1 ≤ d) (hd : d ≤ 40) {mp mr mw : Nat → Int32} (hr : spH P mr) (hm : mp 0 = nI P) (hj : j < P) (hto : to < P) (cn : Nat → Int64) (hA : cA (d - 1) P (exT P (rhoN mr) mw to) cn) (K : Int32 → (Nat → Int64) → Option (Nat → Int64)) :
    ∃ cn', (ob1 (f9_findTimes_L25 N (nI (7 * d + j)) N (0 : Int32) cn) fun v_can_e25 => if nI d = (1 : Int32) then (if nI j = nI to then (gi (nI j) 14 (gi (((94 : Int32) * nI (7 * d + j)) + ((mr (nI j).toNatClampNeg) / (64 : Int32))) 26978 (gi (nI j) 14 (gi (((94 : Int32) * nI (7 * d + j)) + ((mr (nI j).toNatClampNeg) / (64 : Int32))) 26978 (K (nI j + (1 : Int32)) (vp_updL v_can_e25 (((94 : Int32) * nI (7 * d + j)) + ((mr (nI j).toNatClampNeg) / (64 : Int32))).toNatClampNeg ((v_can_e25 (((94 : Int32) * nI (7 * d + j)) + ((mr (nI j).toNatClampNeg) / (64 : Int32))).toNatClampNeg) ||| ((1 : Int64) <<< (((mr (nI j).toNatClampNeg) - (mr (nI j).toNatClampNeg) / (64 : Int32) * (64 : Int32)).toInt64 &&& 63))))))))) else (K (nI j + (1 : Int32)) v_can_e25)) else (ob1 (f9_findTimes_L96 N (nI d) mp mr mw (nI j) (nI (7 * d + j)) N (0 : Int32) v_can_e25) fun v_can_e96 => K (nI j + (1 : Int32)) v_can_e96)) = K (nI (j + 1)) cn' ∧
      (∀ t, t < 6016 → (tbF (cRow cn' (7 * d + j)) t = true ↔ exT P (rhoN mr) mw to d j t)) ∧ ∀ i, i < 94 * (7 * d + j) ∨ 94 * (7 * d + j) + 94 ≤ i → cn' i = cn i := by
  have hP := hr.1
  obtain ⟨c1, c2, c3, -⟩ := rhoN_at hr hj
  obtain ⟨cn1, e1, e2, e3⟩ := ft_zero N (show 7 * d + j < 287 by omega) 94 0 N cn (by omega) (by omega)
  rw [nI_0] at e1
  rw [e1, ob1_k]
  by_cases z : d = 1
  · subst z
    rw [if_pos one_1]
    by_cases g : j = to
    · subst g
      rw [if_pos rfl, x_gi (by omega) (by omega), cl_nI (by omega), c3, div64 (by omega), can_ix, x_gi (by omega) (by omega), x_gi (by omega) (by omega), x_gi (by omega) (by omega), cl_nI (by omega), nI_1]
      have rm : nI (rhoN mr j) - nI (rhoN mr j / 64) * (64 : Int32) = nI (rhoN mr j % 64) := by
        rw [← div64 (by omega), rem64 (by omega)]
      rw [rm]
      refine ⟨_, rfl, fun t ht => ?_, fun i hi => ?_⟩
      · rw [exT]
        have hb : t % 64 < 64 := Nat.mod_lt _ (by omega)
        show (vp_updL cn1 (94 * (7 * 1 + j) + rhoN mr j / 64) (cn1 (94 * (7 * 1 + j) + rhoN mr j / 64) ||| (1 : Int64) <<< ((nI (rhoN mr j % 64)).toInt64 &&& (63 : Int64))) (94 * (7 * 1 + j) + t / 64)).toBitVec.getLsbD (t % 64) = true ↔ j = j ∧ t = rhoN mr j
        by_cases w : t / 64 = rhoN mr j / 64
        · rw [w, pk_uLs, e2 (rhoN mr j / 64) (Nat.zero_le _) (by omega), or_bit, z_bit, shl_bit _ (Nat.mod_lt _ (by omega)) hb, Bool.false_or, Bool.and_eq_true, Bool.not_eq_true', decide_eq_false_iff_not]
          constructor
          · rintro ⟨a1, a2⟩
            rw [one_bit (by omega), decide_eq_true_iff] at a2
            exact ⟨rfl, by omega⟩
          · rintro ⟨-, a2⟩
            refine ⟨by omega, ?_⟩
            rw [one_bit (by omega), decide_eq_true_iff]
            omega
        · rw [pk_uLn (by omega), e2 (t / 64) (Nat.zero_le _) (by omega), z_bit]
          constructor
          · exact fun h => absurd h (by decide)
          · rintro ⟨-, a2⟩
            exact absurd (by rw [a2]) w
      · rw [pk_uLn (by omega), e3 i (by omega)]
    · rw [if_neg (fun q => g ((nI_eq (by omega) (by omega)).mp q)), nI_1]
      refine ⟨cn1, rfl, fun t ht => ?_, fun i hi => e3 i (by omega)⟩
      rw [exT, tb_zero (f := cRow cn1 (7 * 1 + j)) (W := 94) (fun v hv => e2 v (Nat.zero_le _) hv) (by omega)]
      constructor
      · exact fun h => absurd h (by decide)
      · rintro ⟨a, -⟩
        exact absurd a g
  · obtain ⟨d', rfl⟩ : ∃ d', d = d' + 2 := ⟨d - 2, by omega⟩
    obtain ⟨cn2, g1, g2, g3⟩ := ft_96 N hN (show 2 ≤ d' + 2 by omega) hd hP hj (mp := mp) (mw := mw) hm c2 c3 cn1 P 0 N cn1 (by omega) (by omega) (fun _ _ => rfl)
    rw [nI_0] at g1
    rw [if_neg (ne_1 z (by omega)), g1, ob1_k, nI_1]
    refine ⟨cn2, rfl, fun t ht => ?_, fun i hi => by rw [g3 i hi, e3 i (by omega)]⟩
    rw [g2 t ht, tb_zero (f := cRow cn1 (7 * (d' + 2) + j)) (W := 94) (fun v hv => e2 v (Nat.zero_le _) hv) (by omega), exT]
    have same : ∀ q, q < P → tbF (cRow cn1 (7 * (d' + 2 - 1) + q)) (t - rhoN mr j) = tbF (cRow cn (7 * (d' + 1) + q)) (t - rhoN mr j) := fun q hq => by
      unfold tbF cRow
      rw [show d' + 2 - 1 = d' + 1 by omega, e3 (94 * (7 * (d' + 1) + q) + (t - rhoN mr j) / 64) (Or.inl (by omega))]
    constructor
    · rintro (h | ⟨q, -, a2, a3, a4, a5⟩)
      · exact absurd h (by decide)
      · rw [same q a2] at a5
        exact ⟨a4, q, a2, a3, (hA (d' + 1) q (t - rhoN mr j) (by omega) (by omega) a2 (by omega)).mp a5⟩
    · rintro ⟨a4, q, a2, a3, a5⟩
      refine Or.inr ⟨q, Nat.zero_le _, a2, a3, a4, ?_⟩
      rw [same q a2]
      exact (hA (d' + 1) q (t - rhoN mr j) (by omega) (by omega) a2 (by omega)).mpr a5
theorem ft_day (N : Nat) (hN : 200 ≤ N) {d P to : Nat} (h1 : 1 ≤ d) (hd : d ≤ 40) {mp mr mw : Nat → Int32} (hr : spH P mr) (hm : mp 0 = nI P) (hto : to < P) (cn : Nat → Int64) (hA : cA (d - 1) P (exT P (rhoN mr) mw to) cn) :
    ∃ cn', f9_findTimes N (nI d) (nI to) mp mr mw cn = some cn' ∧ cA d P (exT P (rhoN mr) mw to) cn' := by
  have hP := hr.1
  have H : ∀ (k j n : Nat) (cn : Nat → Int64), j + k = P → k < n → cA (d - 1) P (exT P (rhoN mr) mw to) cn →
      ∃ cn', f9_findTimes_L2 N (nI d) (nI to) mp mr mw n (nI j) cn = some cn' ∧ (∀ p, j ≤ p → p < P → ∀ t, t < 6016 → (tbF (cRow cn' (7 * d + p)) t = true ↔ exT P (rhoN mr) mw to d p t)) ∧ ∀ i, i < 94 * (7 * d + j) → cn' i = cn i := by
    intro k
    induction k with
    | zero =>
      intro j n cn hj hn hA
      obtain ⟨n, rfl⟩ : ∃ n', n = n' + 1 := ⟨n - 1, by omega⟩
      exact ⟨cn, by rw [f9_findTimes_L2, gi_ok (i := 0) (by decide) (by decide), n_0, hm, if_pos (nI_le (by omega) (by omega))], fun p a1 a2 => by omega, fun _ _ => rfl⟩
    | succ k ih =>
      intro j n cn hj hn hA
      obtain ⟨n, rfl⟩ : ∃ n', n = n' + 1 := ⟨n - 1, by omega⟩
      obtain ⟨cn1, e1, e2, e3⟩ := ft_cell N hN h1 hd (mp := mp) hr hm (show j < P by omega) hto cn hA (f9_findTimes_L2 N (nI d) (nI to) mp mr mw n)
      obtain ⟨cn', g1, g2, g3⟩ := ih (j + 1) n cn1 (by omega) (by omega) (fun e p t a1 a2 a3 a4 => by
        have s : tbF (cRow cn1 (7 * e + p)) t = tbF (cRow cn (7 * e + p)) t := by
          unfold tbF cRow
          rw [e3 (94 * (7 * e + p) + t / 64) (Or.inl (by omega))]
        rw [s]
        exact hA e p t a1 a2 a3 a4)
      refine ⟨cn', ?_, fun p a1 a2 t a3 => ?_, fun i hi => ?_⟩
      · rw [f9_findTimes_L2, gi_ok (i := 0) (by decide) (by decide), n_0, hm, if_neg (nI_ge (by omega) (by omega)), sp_ix N hd (by omega), ob1_k]
        exact e1.trans g1
      · by_cases z : p = j
        · subst z
          have s : tbF (cRow cn' (7 * d + p)) t = tbF (cRow cn1 (7 * d + p)) t := by
            unfold tbF cRow
            rw [g3 (94 * (7 * d + p) + t / 64) (by omega)]
          rw [s]
          exact e2 t a3
        · exact g2 p (by omega) a2 t a3
      · rw [g3 i (by omega), e3 i (Or.inl hi)]
  obtain ⟨cn', e1, e2, e3⟩ := H P 0 N cn (by omega) (by omega) hA
  refine ⟨cn', ?_, fun e p t a1 a2 a3 a4 => ?_⟩
  · unfold f9_findTimes
    rw [nI_0] at e1
    rw [e1]
    rfl
  · by_cases z : e = d
    · subst z
      exact e2 p (Nat.zero_le _) a3 t a4
    · have s : tbF (cRow cn' (7 * e + p)) t = tbF (cRow cn (7 * e + p)) t := by
        unfold tbF cRow
        rw [e3 (94 * (7 * e + p) + t / 64) (by omega)]
      rw [s]
      exact hA e p t a1 (by omega) a3 a4
theorem ft_able (N : Nat) {d q P D : Nat} (h1 : 1 ≤ d) (hd : d ≤ 40) (hdD : d ≤ D) (hq : q < P) (hP : P ≤ 7) {E : Nat → Nat → Nat → Prop} {cn : Nat → Int64} (hA : cA D P E cn) {T : Int32} (hT : T.toInt ≤ 6000) : (eG E d q T.toInt ∧ f9_isAble N (nI d) (nI q) T cn = some 1) ∨ (¬ eG E d q T.toInt ∧ f9_isAble N (nI d) (nI q) T cn = some 0) := by
  have t6 : (6000 : Int32).toInt = 6000 := rfl
  unfold f9_isAble
  rw [m_in, ob1_k, t_0, t6]
  simp only [b_z, ite_not]
  by_cases c : 0 ≤ T.toInt
  · obtain ⟨t, ht, rfl⟩ := nI_nat2 (M := 6000) c hT
    rw [if_pos ⟨c, hT⟩, sp_ix N hd (by omega), ob1_k, rem64 (by omega), div64 (by omega), can_ix, x_gi (by omega) (by omega), cl_nI (by omega)]
    have w := hA d q t h1 hdD hq (by omega)
    have e : eG E d q (nI t).toInt ↔ E d q t := by
      unfold eG
      rw [t_nI (by omega)]
      exact ⟨fun h => h.2, fun h => ⟨by omega, h⟩⟩
    rw [e, ← w]
    by_cases z : tbF (cRow cn (7 * d + q)) t = true
    · exact Or.inl ⟨z, if_pos ((bit_s _ (Nat.mod_lt _ (by omega))).mpr z)⟩
    · exact Or.inr ⟨z, if_neg (fun h => z ((bit_s _ (Nat.mod_lt _ (by omega))).mp h))⟩
  · exact Or.inr ⟨fun h => c h.1, by rw [if_neg (fun h => c h.1)]⟩
theorem ft_122 (N : Nat) (hN : 60 ≤ N) {P : Nat} {mr mw : Nat → Int32} (hP : P ≤ 7) (M : Nat → Int32) {cn : Nat → Int64} {E : Nat → Nat → Nat → Prop} {D : Nat} (hD : D ≤ 40) (hA : cA D P E cn) (k p q : Nat) (X : Int32) (fd : Nat → Int32) (rec : Int32 → Int32 → Int32 → (Nat → Int32) → Option (Nat → Int32)) (h1 : 1 ≤ k) (hk : k < D) (hp : p < P) (hq : q < P) (hX : X.toInt ≤ 6000) (hs : stM mw p q) (hg : eG E (D - k) q X.toInt) (hno : ∀ q', q' < q → ¬ (stM mw p q' ∧ eG E (D - k) q' X.toInt)) :
    f9_findStay_L122 N 0 mr mw M (nI D) cn (nI p) X (nI k) fd rec N (0 : Int32) = f9_findStay_J202 N mr X (nI k) fd (nI q) rec := by
  have H : ∀ (i j n : Nat), j + i = q → i < n → f9_findStay_L122 N 0 mr mw M (nI D) cn (nI p) X (nI k) fd rec n (nI j) = f9_findStay_J202 N mr X (nI k) fd (nI q) rec := by
    intro i
    induction i with
    | zero =>
      intro j n hj hn
      obtain ⟨n, rfl⟩ : ∃ n', n = n' + 1 := ⟨n - 1, by omega⟩
      have e0 : j = q := by omega
      subst e0
      rcases ft_able N (show 1 ≤ D - k by omega) (by omega) (show D - k ≤ D by omega) hq hP hA hX with ⟨g, cm⟩ | ⟨g, cm⟩
      · rw [f9_findStay_L122, m_isStep N (by omega) (by omega), ob1_k, if_pos hs, if_neg (by decide), if_pos rfl, pk_sub (by omega), cm, ob1_k, if_neg (by decide)]
      · exact absurd hg g
    | succ i ih =>
      intro j n hj hn
      obtain ⟨n, rfl⟩ : ∃ n', n = n' + 1 := ⟨n - 1, by omega⟩
      have no := hno j (by omega)
      rw [f9_findStay_L122, m_isStep N (by omega) (by omega), ob1_k, nI_1]
      by_cases c : stM mw p j
      · rcases ft_able N (show 1 ≤ D - k by omega) (by omega) (show D - k ≤ D by omega) (show j < P by omega) hP hA hX with ⟨g, cm⟩ | ⟨g, cm⟩
        · exact absurd ⟨c, g⟩ no
        · rw [if_pos c, if_neg (by decide), if_pos rfl, pk_sub (by omega), cm, ob1_k, if_pos rfl]
          exact ih (j + 1) n (by omega) (by omega)
      · rw [if_neg c, if_pos rfl]
        exact ih (j + 1) n (by omega) (by omega)
  rw [← nI_0]
  exact H q 0 N (by omega) (by omega)
