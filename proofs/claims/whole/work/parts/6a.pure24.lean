/-! JUST: the class's rows -/
theorem ex_zero (N : Nat) {W : Nat} (hW : W ≤ 94) : ∀ (k w n : Nat) (rs : Nat → Int64), w + k = W → k < n → ∃ rs', f1_layRest_L3 N (nI W) n (nI w) rs = some rs' ∧ (∀ v, w ≤ v → v < W → rs' v = 0) ∧ ∀ v, v < w → rs' v = rs v := by
  intro k
  induction k with
  | zero =>
    intro w n rs hw hn
    obtain ⟨n, rfl⟩ : ∃ n', n = n' + 1 := ⟨n - 1, by omega⟩
    exact ⟨rs, by rw [f1_layRest_L3, if_pos (nI_le (by omega) (by omega))], fun v h1 h2 => by omega, fun _ _ => rfl⟩
  | succ k ih =>
    intro w n rs hw hn
    obtain ⟨n, rfl⟩ : ∃ n', n = n' + 1 := ⟨n - 1, by omega⟩
    obtain ⟨rs', e1, e2, e3⟩ := ih (w + 1) n (vp_updL rs w 0) (by omega) (by omega)
    refine ⟨rs', ?_, fun v h1 h2 => ?_, fun v h1 => ?_⟩
    · rw [f1_layRest_L3, if_neg (nI_ge (by omega) (by omega)), l_94, if_neg (nI_ge (by omega) (by omega)), x_gi (by omega) (by omega), cl_nI (by omega), nI_1]
      exact e1
    · by_cases c : v = w
      · subst c
        rw [e3 v (by omega), pk_uLs]
      · exact e2 v (by omega) h2
    · rw [e3 v (by omega), pk_uLn (by omega)]
theorem ex_or (N : Nat) {W d q : Nat} (hW : W ≤ 94) (h2 : 2 ≤ d) (hd : d ≤ 40) (hq : q < 7) (tm : Nat → Nat → Int64) : ∀ (k w n : Nat) (rs : Nat → Int64), w + k = W → k < n → ∃ rs', f1_layRest_L105 N (nI d) (nI W) tm (nI q) n (nI w) rs = some rs' ∧ (∀ v, w ≤ v → v < W → rs' v = rs v ||| tm (7 * (d - 1) + q) v) ∧ ∀ v, v < w → rs' v = rs v := by
  intro k
  induction k with
  | zero =>
    intro w n rs hw hn
    obtain ⟨n, rfl⟩ : ∃ n', n = n' + 1 := ⟨n - 1, by omega⟩
    exact ⟨rs, by rw [f1_layRest_L105, if_pos (nI_le (by omega) (by omega))], fun v h1 h2 => by omega, fun _ _ => rfl⟩
  | succ k ih =>
    intro w n rs hw hn
    obtain ⟨n, rfl⟩ : ∃ n', n = n' + 1 := ⟨n - 1, by omega⟩
    obtain ⟨rs', e1, e2, e3⟩ := ih (w + 1) n (vp_updL rs w (rs w ||| tm (7 * (d - 1) + q) w)) (by omega) (by omega)
    refine ⟨rs', ?_, fun v h1 h2 => ?_, fun v h1 => ?_⟩
    · rw [f1_layRest_L105, if_neg (nI_ge (by omega) (by omega)), l_94, if_neg (nI_ge (by omega) (by omega)), x_gi (by omega) (by omega), x_gi (by omega) (by omega), x_gi (by omega) (by omega), cl_nI (by omega), nI_pr (by omega), row_ix, cl_nI (by omega), nI_1]
      exact e1
    · by_cases c : v = w
      · subst c
        rw [e3 v (by omega), pk_uLs]
      · rw [e2 v (by omega) h2, pk_uLn c]
    · rw [e3 v (by omega), pk_uLn (by omega)]
theorem tb_or {f g h : Nat → Int64} {W : Nat} (e : ∀ v, v < W → h v = f v ||| g v) {t : Nat} (ht : t < 64 * W) : tbF h t = (tbF f t || tbF g t) := by
  unfold tbF
  rw [e (t / 64) (by omega), or_bit]
theorem ex_rest1 (N : Nat) (p4 W : Int32) (tm : Nat → Nat → Int64) (pr : Int32) (dn : Nat → Int32) (rs : Nat → Int64) : ∀ (k j n : Nat), j + k = 7 → k < n → f1_layRest_L52 N (nI 1) p4 W tm pr dn n (nI j) rs = some rs := by
  intro k
  induction k with
  | zero =>
    intro j n hj hn
    obtain ⟨n, rfl⟩ : ∃ n', n = n' + 1 := ⟨n - 1, by omega⟩
    rw [f1_layRest_L52, if_pos (by rw [t_le, t_nI (by omega), t_7]; omega)]
  | succ k ih =>
    intro j n hj hn
    obtain ⟨n, rfl⟩ : ∃ n', n = n' + 1 := ⟨n - 1, by omega⟩
    rw [f1_layRest_L52, if_neg (c7 (by omega)), if_pos (by decide), nI_1]
    exact ih (j + 1) n (by omega) (by omega)
theorem ex_rest2 (N : Nat) (hN : 200 ≤ N) {W d p P : Nat} (hW : W ≤ 94) (h2 : 2 ≤ d) (hd : d ≤ 40) (hP : P ≤ 7) (hp : p < P) (tm : Nat → Nat → Int64) (dn : Nat → Int32) : ∀ (k j n : Nat) (rs : Nat → Int64), j + k = 7 → k < n →
    ∃ rs', f1_layRest_L52 N (nI d) (nI p) (nI W) tm (nI P) dn n (nI j) rs = some rs' ∧ ∀ t, t < 64 * W → (tbF rs' t = true ↔ (tbF rs t = true ∨ ∃ q, j ≤ q ∧ q < P ∧ spS (dn p) p q ∧ tbF (tm (7 * (d - 1) + q)) t = true)) := by
  intro k
  induction k with
  | zero =>
    intro j n rs hj hn
    obtain ⟨n, rfl⟩ : ∃ n', n = n' + 1 := ⟨n - 1, by omega⟩
    refine ⟨rs, by rw [f1_layRest_L52, if_pos (by rw [t_le, t_nI (by omega), t_7]; omega)], fun t ht => ⟨Or.inl, fun h => h.elim id (fun ⟨q, a1, a2, _⟩ => by omega)⟩⟩
  | succ k ih =>
    intro j n rs hj hn
    obtain ⟨n, rfl⟩ : ∃ n', n = n' + 1 := ⟨n - 1, by omega⟩
    rw [f1_layRest_L52, if_neg (c7 (by omega)), if_neg (by rw [t_le, t_nI (by omega), t_1]; omega), nI_1]
    by_cases cP : j < P
    · rw [x_mayFollow N hP hp cP, ob1_k]
      by_cases c : spS (dn p) p j
      · obtain ⟨r1, e1, e2, -⟩ := ex_or N hW h2 hd (show j < 7 by omega) tm W 0 N rs (by omega) (by omega)
        obtain ⟨r2, g1, g2⟩ := ih (j + 1) n r1 (by omega) (by omega)
        rw [if_pos c, if_neg (by decide), nI_pr (by omega), ex_row N (by omega) (by omega) (by omega), ob1_k, if_neg (by decide), row_ix, x_gi (by omega) (by omega), ← nI_0, e1, ob1_k]
        refine ⟨r2, g1, fun t ht => ?_⟩
        rw [g2 t ht, tb_or (fun v hv => e2 v (Nat.zero_le _) hv) ht, Bool.or_eq_true]
        constructor
        · rintro ((a | a) | ⟨q, a1, a2, a3, a4⟩)
          · exact Or.inl a
          · exact Or.inr ⟨j, Nat.le_refl _, cP, c, a⟩
          · exact Or.inr ⟨q, by omega, a2, a3, a4⟩
        · rintro (a | ⟨q, a1, a2, a3, a4⟩)
          · exact Or.inl (Or.inl a)
          · by_cases e : q = j
            · subst e
              exact Or.inl (Or.inr a4)
            · exact Or.inr ⟨q, by omega, a2, a3, a4⟩
      · obtain ⟨r2, g1, g2⟩ := ih (j + 1) n rs (by omega) (by omega)
        rw [if_neg c, if_pos rfl]
        refine ⟨r2, g1, fun t ht => ?_⟩
        rw [g2 t ht]
        constructor
        · rintro (a | ⟨q, a1, a2, a3, a4⟩)
          · exact Or.inl a
          · exact Or.inr ⟨q, by omega, a2, a3, a4⟩
        · rintro (a | ⟨q, a1, a2, a3, a4⟩)
          · exact Or.inl a
          · by_cases e : q = j
            · subst e
              exact absurd a3 c
            · exact Or.inr ⟨q, by omega, a2, a3, a4⟩
    · obtain ⟨r2, g1, g2⟩ := ih (j + 1) n rs (by omega) (by omega)
      rw [x_mayNot N hP hp (by omega) (by omega), ob1_k, if_pos rfl]
      refine ⟨r2, g1, fun t ht => ?_⟩
      rw [g2 t ht]
      constructor
      · rintro (a | ⟨q, a1, a2, a3, a4⟩)
        · exact Or.inl a
        · exact Or.inr ⟨q, by omega, a2, a3, a4⟩
      · rintro (a | ⟨q, a1, a2, a3, a4⟩)
        · exact Or.inl a
        · omega
theorem tb_zero {f : Nat → Int64} {W : Nat} (e : ∀ v, v < W → f v = 0) {t : Nat} (ht : t < 64 * W) : tbF f t = false := by
  unfold tbF
  rw [e (t / 64) (by omega), z_bit]
theorem one_bit {b : Nat} (hb : b < 64) : (1 : Int64).toBitVec.getLsbD b = decide (b = 0) := by
  show (1#64).getLsbD b = _
  exact b1t b hb
theorem ex_layRest (N : Nat) (hN : 200 ≤ N) {W d p P to : Nat} (hW1 : 1 ≤ W) (hW : W ≤ 94) (h1 : 1 ≤ d) (hd : d ≤ 40) (hP : P ≤ 7) (hp : p < P) (hto : to < P) (tm : Nat → Nat → Int64) (rs : Nat → Int64) (dn : Nat → Int32) :
    ∃ rs', f1_layRest N (nI to) (nI d) (nI p) (nI W) tm rs (nI P) dn = some rs' ∧ ∀ t, t < 64 * W → (tbF rs' t = true ↔ ((d = 1 ∧ p = to ∧ t = 0) ∨ (2 ≤ d ∧ ∃ q, q < P ∧ spS (dn p) p q ∧ tbF (tm (7 * (d - 1) + q)) t = true))) := by
  obtain ⟨r0, e1, e2, -⟩ := ex_zero N hW W 0 N rs (by omega) (by omega)
  have e2' : ∀ v, v < W → r0 v = 0 := fun v hv => e2 v (Nat.zero_le _) hv
  unfold f1_layRest
  rw [nI_0] at e1
  rw [e1, ob1_k]
  by_cases c : d = 1
  · subst c
    rw [if_pos one_1]
    by_cases g : p = to
    · subst g
      rw [if_pos rfl, gi_ok (i := 0) (by decide) (by decide), n_0, ← nI_0, ex_rest1 N (nI p) (nI W) tm (nI P) dn _ 7 0 N (by omega) (by omega), ob1_k]
      refine ⟨_, rfl, fun t ht => ?_⟩
      unfold tbF
      by_cases z : t / 64 = 0
      · rw [z, pk_uLs, one_bit (Nat.mod_lt _ (by omega)), decide_eq_true_iff]
        constructor
        · exact fun h => Or.inl ⟨rfl, rfl, by omega⟩
        · rintro (h | h) <;> omega
      · rw [pk_uLn z, e2' (t / 64) (by omega), z_bit]
        constructor
        · exact fun h => absurd h (by decide)
        · rintro (h | h) <;> omega
    · rw [if_neg (fun q => g ((nI_eq (by omega) (by omega)).mp q)), ← nI_0, ex_rest1 N (nI p) (nI W) tm (nI P) dn _ 7 0 N (by omega) (by omega), ob1_k]
      refine ⟨_, rfl, fun t ht => ?_⟩
      rw [tb_zero e2' ht]
      constructor
      · exact fun h => absurd h (by decide)
      · rintro (h | h) <;> omega
  · obtain ⟨r2, g1, g2⟩ := ex_rest2 N hN hW (show 2 ≤ d by omega) hd hP hp tm dn 7 0 N r0 (by omega) (by omega)
    rw [nI_0] at g1
    rw [if_neg (ne_1 c (by omega)), g1, ob1_k]
    refine ⟨r2, rfl, fun t ht => ?_⟩
    rw [g2 t ht, tb_zero e2' ht]
    constructor
    · rintro (h | ⟨q, -, a2, a3, a4⟩)
      · exact absurd h (by decide)
      · exact Or.inr ⟨by omega, q, a2, a3, a4⟩
    · rintro (h | ⟨-, q, a2, a3, a4⟩)
      · omega
      · exact Or.inr ⟨q, Nat.zero_le _, a2, a3, a4⟩
theorem ex_shL (N : Nat) {W d p c : Nat} (hW : W ≤ 94) (hd : d ≤ 40) (hp : p < 7) (hc : c ≤ 540) (rs : Nat → Int64) : ∀ (k w n : Nat) (tm : Nat → Nat → Int64), w + k = W → k < n →
    ∃ tm', f1_layShifted_L41 N (nI d) (nI p) (nI c) (nI W) rs n (nI w) tm = some tm' ∧ (∀ v, w ≤ v → v < W → tm' (7 * d + p) v = shW rs c v) ∧ (∀ v, v < w → tm' (7 * d + p) v = tm (7 * d + p) v) ∧ ∀ i, i ≠ 7 * d + p → tm' i = tm i := by
  intro k
  induction k with
  | zero =>
    intro w n tm hw hn
    obtain ⟨n, rfl⟩ : ∃ n', n = n' + 1 := ⟨n - 1, by omega⟩
    exact ⟨tm, by rw [f1_layShifted_L41, if_pos (nI_le (by omega) (by omega))], fun v h1 h2 => by omega, fun _ _ => rfl, fun _ _ => rfl⟩
  | succ k ih =>
    intro w n tm hw hn
    obtain ⟨n, rfl⟩ : ∃ n', n = n' + 1 := ⟨n - 1, by omega⟩
    have go : ∃ tm', f1_layShifted_L41 N (nI d) (nI p) (nI c) (nI W) rs n (nI (w + 1)) (upM tm (7 * d + p) (vp_updL (tm (7 * d + p)) w (shW rs c w))) = some tm' ∧ (∀ v, w ≤ v → v < W → tm' (7 * d + p) v = shW rs c v) ∧ (∀ v, v < w → tm' (7 * d + p) v = tm (7 * d + p) v) ∧ ∀ i, i ≠ 7 * d + p → tm' i = tm i := by
      obtain ⟨tm', e1, e2, e3, e4⟩ := ih (w + 1) n (upM tm (7 * d + p) (vp_updL (tm (7 * d + p)) w (shW rs c w))) (by omega) (by omega)
      refine ⟨tm', e1, fun v h1 h2 => ?_, fun v h1 => ?_, fun i hi => ?_⟩
      · by_cases g : v = w
        · subst g
          rw [e3 v (by omega), upM_s, pk_uLs]
        · exact e2 v (by omega) h2
      · rw [e3 v (by omega), upM_s, pk_uLn (by omega)]
      · rw [e4 i hi, upM_n hi]
    rw [f1_layShifted_L41, if_neg (nI_ge (by omega) (by omega)), l_94, if_neg (nI_ge (by omega) (by omega))]
    unfold f1_layShifted_J79
    rw [rem64 (by omega), div64 (by omega), row_ix, nI_1]
    have ex : shW rs c w = if c % 64 = 0 ∨ w ≤ c / 64 then (if w < c / 64 then 0 else rs (w - c / 64) <<< ((nI (c % 64)).toInt64 &&& (63 : Int64))) else rs (w - c / 64) <<< ((nI (c % 64)).toInt64 &&& (63 : Int64)) ||| (((rs (w - c / 64 - 1)).toUInt64 >>> ((nI (64 - c % 64)).toInt64.toUInt64 &&& Int64.toUInt64 63)).toInt64) := rfl
    have hm : c % 64 < 64 := Nat.mod_lt _ (by omega)
    have cm : nI (c % 64) ≤ (0 : Int32) ↔ c % 64 = 0 := by
      rw [t_le, t_0, t_nI (by omega)]
      omega
    have cw : nI w ≤ nI (c / 64) ↔ w ≤ c / 64 := nI_leI (by omega) (by omega)
    by_cases h1 : w < c / 64
    · rw [if_pos (nI_lt h1 (by omega))]
      rw [if_pos (Or.inr (by omega)), if_pos h1] at ex
      rw [← ex]
      rw [x_gi (by omega) (by omega), cl_nI (by omega), cl_nI (by omega), if_pos (cw.mpr (by omega))]
      simp only [ite_self]
      exact go
    · rw [if_neg (nI_nlt (by omega) (by omega)), pk_sub (by omega), x_gi (by omega) (by omega), cl_nI (by omega), cl_nI (by omega), cl_nI (by omega)]
      by_cases h2 : c % 64 = 0
      · rw [if_pos (Or.inl h2), if_neg h1] at ex
        rw [← ex, if_pos (cm.mpr h2), x_gi (by omega) (by omega)]
        exact go
      · rw [if_neg (fun q => h2 (cm.mp q))]
        by_cases h3 : w ≤ c / 64
        · rw [if_pos (Or.inr h3), if_neg h1] at ex
          rw [← ex, if_pos (cw.mpr h3), x_gi (by omega) (by omega)]
          exact go
        · rw [if_neg (fun q => q.elim h2 h3)] at ex
          rw [if_neg (fun q => h3 (cw.mp q)), nI_pr (by omega), x_gi (by omega) (by omega), x_gi (by omega) (by omega), cl_nI (by omega), l_64, pk_sub (by omega), ← ex]
          exact go
theorem ex_words {T : Nat} (hT : T ≤ 6000) : (if nI T / (64 : Int32) + 1 < (94 : Int32) then nI T / (64 : Int32) + 1 else (94 : Int32)) = nI (T / 64 + 1) := by
  rw [div64 (by omega), nI_1, l_94]
  by_cases c : T / 64 + 1 < 94
  · rw [if_pos (nI_lt c (by omega))]
  · rw [if_neg (nI_nlt (by omega) (by omega)), show T / 64 + 1 = 94 by omega]
