/-! JUST: the reference's rows -/
def cRow (cn : Nat → Int64) (r : Nat) : Nat → Int64 := fun w => cn (94 * r + w)
def cA (D : Nat) (P : Nat) (E : Nat → Nat → Nat → Prop) (cn : Nat → Int64) : Prop := ∀ d p t, 1 ≤ d → d ≤ D → p < P → t < 6016 → (tbF (cRow cn (7 * d + p)) t = true ↔ E d p t)
theorem can_ix (r w : Nat) : (94 : Int32) * nI r + nI w = nI (94 * r + w) := by
  rw [l_94, pk_mul, nI_add]
theorem can_ix0 (r : Nat) : (94 : Int32) * nI r = nI (94 * r) := by
  rw [l_94, pk_mul]
theorem ft_zero (N : Nat) {r : Nat} (hr : r < 287) : ∀ (k w n : Nat) (cn : Nat → Int64), w + k = 94 → k < n → ∃ cn', f9_findTimes_L25 N (nI r) n (nI w) cn = some cn' ∧ (∀ v, w ≤ v → v < 94 → cn' (94 * r + v) = 0) ∧ ∀ i, i < 94 * r + w ∨ 94 * r + 94 ≤ i → cn' i = cn i := by
  intro k
  induction k with
  | zero =>
    intro w n cn hw hn
    obtain ⟨n, rfl⟩ : ∃ n', n = n' + 1 := ⟨n - 1, by omega⟩
    exact ⟨cn, by rw [f9_findTimes_L25, l_94, if_pos (nI_le (by omega) (by omega))], fun v h1 h2 => by omega, fun _ _ => rfl⟩
  | succ k ih =>
    intro w n cn hw hn
    obtain ⟨n, rfl⟩ : ∃ n', n = n' + 1 := ⟨n - 1, by omega⟩
    obtain ⟨cn', e1, e2, e3⟩ := ih (w + 1) n (vp_updL cn (94 * r + w) 0) (by omega) (by omega)
    refine ⟨cn', ?_, fun v h1 h2 => ?_, fun i hi => ?_⟩
    · have c94 : ¬ (94 : Int32) ≤ nI w := by
        rw [l_94]
        exact nI_ge (by omega) (by omega)
      rw [f9_findTimes_L25, if_neg c94, can_ix, x_gi (by omega) (by omega), cl_nI (by omega), nI_1]
      exact e1
    · by_cases c : v = w
      · subst c
        rw [e3 (94 * r + v) (Or.inl (by omega)), pk_uLs]
      · exact e2 v (by omega) h2
    · rw [e3 i (by omega), pk_uLn (by omega)]
theorem fa_L (N : Nat) {A B c : Nat} (hA : A + 94 ≤ 26978) (hB : B + 94 ≤ 26978) (hAB : A + 94 ≤ B ∨ B + 94 ≤ A) (hc : c ≤ 540) (cn0 : Nat → Int64) : ∀ (w n : Nat) (cn : Nat → Int64), w ≤ 94 → w < n → (∀ v, v < 94 → cn (B + v) = cn0 (B + v)) →
    ∃ cn', f9_addShifted_L16 N (nI A) (nI B) (nI c) n (nI w + (-1 : Int32)) cn = some cn' ∧ (∀ v, c / 64 ≤ v → v < w → cn' (A + v) = cn (A + v) ||| shW (fun u => cn0 (B + u)) c v) ∧ ∀ i, i < A + c / 64 ∨ A + w ≤ i → cn' i = cn i := by
  intro w
  induction w with
  | zero =>
    intro n cn hw hn h0
    obtain ⟨n, rfl⟩ : ∃ n', n = n' + 1 := ⟨n - 1, by omega⟩
    refine ⟨cn, ?_, fun v h1 h2 => by omega, fun _ _ => rfl⟩
    rw [f9_addShifted_L16, div64 (by omega), if_pos (by rw [nI_0, Int32.zero_add]; exact m1_lt (by omega))]
  | succ w ih =>
    intro n cn hw hn h0
    obtain ⟨n, rfl⟩ : ∃ n', n = n' + 1 := ⟨n - 1, by omega⟩
    rw [f9_addShifted_L16, pk_m1, rem64 (by omega), div64 (by omega)]
    have hm : c % 64 < 64 := Nat.mod_lt _ (by omega)
    have cm : nI (c % 64) ≤ (0 : Int32) ↔ c % 64 = 0 := by
      rw [t_le, t_0, t_nI (by omega)]
      omega
    have cw : nI w ≤ nI (c / 64) ↔ w ≤ c / 64 := nI_leI (by omega) (by omega)
    by_cases h1 : w < c / 64
    · rw [if_pos (nI_lt h1 (by omega))]
      exact ⟨cn, rfl, fun v h1 h2 => by omega, fun _ _ => rfl⟩
    · have go : ∃ cn', f9_addShifted_L16 N (nI A) (nI B) (nI c) n (nI w + (-1 : Int32)) (vp_updL cn (A + w) (cn (A + w) ||| shW (fun u => cn0 (B + u)) c w)) = some cn' ∧ (∀ v, c / 64 ≤ v → v < w + 1 → cn' (A + v) = cn (A + v) ||| shW (fun u => cn0 (B + u)) c v) ∧ ∀ i, i < A + c / 64 ∨ A + (w + 1) ≤ i → cn' i = cn i := by
        obtain ⟨cn', e1, e2, e3⟩ := ih n (vp_updL cn (A + w) (cn (A + w) ||| shW (fun u => cn0 (B + u)) c w)) (by omega) (by omega) (fun v hv => by rw [pk_uLn (by omega)]; exact h0 v hv)
        refine ⟨cn', e1, fun v g1 g2 => ?_, fun i hi => ?_⟩
        · by_cases g : v = w
          · subst g
            rw [e3 (A + v) (Or.inr (by omega)), pk_uLs]
          · rw [e2 v g1 (by omega), pk_uLn (by omega)]
        · rw [e3 i (by omega), pk_uLn (by omega)]
      have ex : shW (fun u => cn0 (B + u)) c w = if c % 64 = 0 ∨ w ≤ c / 64 then (if w < c / 64 then 0 else cn0 (B + (w - c / 64)) <<< ((nI (c % 64)).toInt64 &&& (63 : Int64))) else cn0 (B + (w - c / 64)) <<< ((nI (c % 64)).toInt64 &&& (63 : Int64)) ||| (((cn0 (B + (w - c / 64 - 1))).toUInt64 >>> ((nI (64 - c % 64)).toInt64.toUInt64 &&& Int64.toUInt64 63)).toInt64) := rfl
      have i1 : nI B + nI w - nI (c / 64) = nI (B + (w - c / 64)) := by
        rw [nI_add, pk_sub (by omega), show B + w - c / 64 = B + (w - c / 64) by omega]
      rw [if_neg (nI_nlt (by omega) (by omega)), i1, x_gi (by omega) (by omega), nI_add, cl_nI (show B + (w - c / 64) < 2147483648 by omega), cl_nI (show A + w < 2147483648 by omega), h0 (w - c / 64) (by omega)]
      simp only [x_gi (show A + w < 26978 by omega) (show 26978 < 100000 by omega)]
      by_cases h2 : c % 64 = 0
      · rw [if_pos (Or.inl h2), if_neg h1] at ex
        rw [← ex, if_pos (cm.mpr h2)]
        exact go
      · rw [if_neg (fun q => h2 (cm.mp q))]
        by_cases h3 : w ≤ c / 64
        · rw [if_pos (Or.inr h3), if_neg h1] at ex
          rw [← ex, if_pos (cw.mpr h3)]
          exact go
        · rw [if_neg (fun q => q.elim h2 h3)] at ex
          have i2 : nI (B + (w - c / 64)) - (1 : Int32) = nI (B + (w - c / 64 - 1)) := by
            rw [nI_pr (by omega), show B + (w - c / 64) - 1 = B + (w - c / 64 - 1) by omega]
          rw [if_neg (fun q => h3 (cw.mp q)), i2, x_gi (by omega) (by omega), cl_nI (by omega), h0 (w - c / 64 - 1) (by omega), l_64, pk_sub (by omega), ← ex]
          exact go
/-- a row or'd with another one, shifted -/
theorem fa_add (N : Nat) (hN : 200 ≤ N) {a b c : Nat} (ha : a < 287) (hb : b < 287) (hab : a ≠ b) (hc : c ≤ 540) (cn : Nat → Int64) :
    ∃ cn', f9_addShifted N (nI (94 * a)) (nI (94 * b)) (nI c) cn = some cn' ∧ (∀ t, t < 6016 → tbF (cRow cn' a) t = (tbF (cRow cn a) t || (decide (c ≤ t) && tbF (cRow cn b) (t - c)))) ∧ ∀ i, i < 94 * a ∨ 94 * a + 94 ≤ i → cn' i = cn i := by
  obtain ⟨cn', e1, e2, e3⟩ := fa_L N (A := 94 * a) (B := 94 * b) (c := c) (by omega) (by omega) (by omega) hc cn 94 N cn (by omega) (by omega) (fun _ _ => rfl)
  refine ⟨cn', ?_, fun t ht => ?_, fun i hi => e3 i (by omega)⟩
  · unfold f9_addShifted
    have e : (93 : Int32) = nI 94 + (-1 : Int32) := by decide
    rw [e, e1]
    rfl
  · have hb : t % 64 < 64 := Nat.mod_lt _ (by omega)
    have sb := shW_bit (cRow cn b) (c := c) (w := t / 64) hb
    rw [show 64 * (t / 64) + t % 64 = t by omega] at sb
    by_cases h : c / 64 ≤ t / 64
    · have g : tbF (cRow cn' a) t = (cn' (94 * a + t / 64)).toBitVec.getLsbD (t % 64) := rfl
      rw [g, e2 (t / 64) h (by omega), or_bit, ← sb]
      rfl
    · have g : tbF (cRow cn' a) t = (cn' (94 * a + t / 64)).toBitVec.getLsbD (t % 64) := rfl
      rw [g, e3 (94 * a + t / 64) (Or.inl (by omega)), decide_eq_false (show ¬ c ≤ t by omega)]
      show tbF (cRow cn a) t = _
      simp
theorem ft_96 (N : Nat) (hN : 200 ≤ N) {d p P : Nat} (h2 : 2 ≤ d) (hd : d ≤ 40) (hP : P ≤ 7) (hp : p < P) {mp mr mw : Nat → Int32} (hm : mp 0 = nI P) {c : Nat} (hc : c ≤ 540) (hmc : mr p = nI c) (cn0 : Nat → Int64) : ∀ (k j n : Nat) (cn : Nat → Int64), j + k = P → k < n → (∀ i, i < 94 * (7 * d + p) ∨ 94 * (7 * d + p) + 94 ≤ i → cn i = cn0 i) →
    ∃ cn', f9_findTimes_L96 N (nI d) mp mr mw (nI p) (nI (7 * d + p)) n (nI j) cn = some cn' ∧ (∀ t, t < 6016 → (tbF (cRow cn' (7 * d + p)) t = true ↔ (tbF (cRow cn (7 * d + p)) t = true ∨ ∃ q, j ≤ q ∧ q < P ∧ spS (mw p) p q ∧ c ≤ t ∧ tbF (cRow cn0 (7 * (d - 1) + q)) (t - c) = true))) ∧ (∀ i, i < 94 * (7 * d + p) ∨ 94 * (7 * d + p) + 94 ≤ i → cn' i = cn0 i) := by
  intro k
  induction k with
  | zero =>
    intro j n cn hj hn h0
    obtain ⟨n, rfl⟩ : ∃ n', n = n' + 1 := ⟨n - 1, by omega⟩
    refine ⟨cn, by rw [f9_findTimes_L96, gi_ok (i := 0) (by decide) (by decide), n_0, hm, if_pos (nI_le (by omega) (by omega))], fun t ht => ⟨Or.inl, fun h => h.elim id (fun ⟨q, a1, a2, _⟩ => by omega)⟩, h0⟩
  | succ k ih =>
    intro j n cn hj hn h0
    obtain ⟨n, rfl⟩ : ∃ n', n = n' + 1 := ⟨n - 1, by omega⟩
    rw [f9_findTimes_L96, gi_ok (i := 0) (by decide) (by decide), n_0, hm, if_neg (nI_ge (by omega) (by omega)), m_isStep N (by omega) (by omega), ob1_k, nI_1]
    by_cases cs : spS (mw p) p j
    · obtain ⟨c1, e1, e2, e3⟩ := fa_add N hN (a := 7 * d + p) (b := 7 * (d - 1) + j) (by omega) (by omega) (by omega) hc cn
      obtain ⟨c2, g1, g2, g3⟩ := ih (j + 1) n c1 (by omega) (by omega) (fun i hi => by rw [e3 i (by omega), h0 i hi])
      rw [if_pos cs, if_neg (by decide), nI_pr (by omega), sp_ix N (by omega) (by omega), ob1_k, x_gi (by omega) (by omega), cl_nI (by omega), hmc, can_ix0, can_ix0, e1, ob1_k]
      refine ⟨c2, g1, fun t ht => ?_, g3⟩
      have er' : tbF (cRow cn (7 * (d - 1) + j)) (t - c) = tbF (cRow cn0 (7 * (d - 1) + j)) (t - c) := by
        unfold tbF cRow
        rw [h0 (94 * (7 * (d - 1) + j) + (t - c) / 64) (Or.inl (by omega))]
      rw [g2 t ht, e2 t ht, er', Bool.or_eq_true, Bool.and_eq_true, decide_eq_true_iff]
      constructor
      · rintro ((a | ⟨a, b⟩) | ⟨q, a1, a2, a3, a4⟩)
        · exact Or.inl a
        · exact Or.inr ⟨j, Nat.le_refl _, by omega, cs, a, b⟩
        · exact Or.inr ⟨q, by omega, a2, a3, a4⟩
      · rintro (a | ⟨q, a1, a2, a3, a4, a5⟩)
        · exact Or.inl (Or.inl a)
        · by_cases e : q = j
          · subst e
            exact Or.inl (Or.inr ⟨a4, a5⟩)
          · exact Or.inr ⟨q, by omega, a2, a3, a4, a5⟩
    · obtain ⟨c2, g1, g2, g3⟩ := ih (j + 1) n cn (by omega) (by omega) h0
      rw [if_neg cs, if_pos rfl]
      refine ⟨c2, g1, fun t ht => ?_, g3⟩
      rw [g2 t ht]
      constructor
      · rintro (a | ⟨q, a1, a2, a3, a4⟩)
        · exact Or.inl a
        · exact Or.inr ⟨q, by omega, a2, a3, a4⟩
      · rintro (a | ⟨q, a1, a2, a3, a4⟩)
        · exact Or.inl a
        · by_cases e : q = j
          · subst e
            exact absurd a3 cs
          · exact Or.inr ⟨q, by omega, a2, a3, a4⟩
