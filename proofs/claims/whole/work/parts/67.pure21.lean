/-! the parts of a stay's days: each the first that can -/
def chP (G : Nat → Nat → Int → Prop) (St : Nat → Nat → Prop) (P : Nat) (ρ : Nat → Int) (D p0 : Nat) (x0 : Int) : Nat → Nat → Int → Prop
  | 0, p, x => p = p0 ∧ x = x0
  | k + 1, p, x => ∃ p' x', chP G St P ρ D p0 x0 k p' x' ∧ x = x' - ρ p' ∧ p < P ∧ St p' p ∧ G (D - (k + 1)) p x ∧ ∀ q, q < p → ¬ (St p' q ∧ G (D - (k + 1)) q x)
theorem chP_one {G : Nat → Nat → Int → Prop} {St : Nat → Nat → Prop} {P : Nat} {ρ : Nat → Int} {D p0 : Nat} {x0 : Int} : ∀ (k p : Nat) (x : Int) (p' : Nat) (x' : Int), chP G St P ρ D p0 x0 k p x → chP G St P ρ D p0 x0 k p' x' → p = p' ∧ x = x' := by
  intro k
  induction k with
  | zero =>
    intro p x p' x' h h'
    exact ⟨h.1.trans h'.1.symm, h.2.trans h'.2.symm⟩
  | succ k ih =>
    intro p x p' x' h h'
    obtain ⟨a, y, h1, h2, h3, h4, h5, h6⟩ := h
    obtain ⟨b, z, g1, g2, g3, g4, g5, g6⟩ := h'
    obtain ⟨rfl, rfl⟩ := ih a y b z h1 g1
    have e : x = x' := h2.trans g2.symm
    subst e
    refine ⟨?_, rfl⟩
    by_cases c : p < p'
    · exact absurd ⟨h4, h5⟩ (g6 p c)
    · by_cases c2 : p' < p
      · exact absurd ⟨g4, g5⟩ (h6 p' c2)
      · omega
theorem chP_in {G : Nat → Nat → Int → Prop} {St : Nat → Nat → Prop} {P : Nat} {ρ : Nat → Int} {D p0 : Nat} {x0 : Int} (h0 : p0 < P) (hG : G D p0 x0) : ∀ (k p : Nat) (x : Int), chP G St P ρ D p0 x0 k p x → p < P ∧ G (D - k) p x := by
  intro k p x h
  cases k with
  | zero =>
    obtain ⟨rfl, rfl⟩ := h
    exact ⟨h0, hG⟩
  | succ k =>
    obtain ⟨a, y, h1, h2, h3, h4, h5, h6⟩ := h
    exact ⟨h3, h5⟩
theorem chP_rng {G : Nat → Nat → Int → Prop} {St : Nat → Nat → Prop} {P : Nat} {ρ : Nat → Int} {D p0 : Nat} {x0 : Int} (h0 : p0 < P) (hρ : ∀ p, p < P → 0 ≤ ρ p ∧ ρ p ≤ 540) : ∀ (k p : Nat) (x : Int), chP G St P ρ D p0 x0 k p x → p < P ∧ x ≤ x0 ∧ x0 - 540 * k ≤ x := by
  intro k
  induction k with
  | zero =>
    intro p x h
    obtain ⟨rfl, rfl⟩ := h
    exact ⟨h0, by omega, by omega⟩
  | succ k ih =>
    intro p x h
    obtain ⟨a, y, h1, h2, h3, h4, h5, h6⟩ := h
    obtain ⟨i1, i2, i3⟩ := ih a y h1
    obtain ⟨r1, r2⟩ := hρ a i1
    exact ⟨h3, by omega, by omega⟩
def hasNext (G : Nat → Nat → Int → Prop) (St : Nat → Nat → Prop) (P : Nat) (ρ : Nat → Int) : Prop := ∀ (e p : Nat) (x : Int), p < P → 1 ≤ e → e + 1 ≤ 40 → G (e + 1) p x → ∃ q, q < P ∧ St p q ∧ G e q (x - ρ p)
theorem chP_next {G : Nat → Nat → Int → Prop} {St : Nat → Nat → Prop} {P : Nat} {ρ : Nat → Int} {D p0 : Nat} {x0 : Int} (hn : hasNext G St P ρ) (hD : D ≤ 40) (h0 : p0 < P) (hG : G D p0 x0) {k p : Nat} {x : Int} (h : chP G St P ρ D p0 x0 k p x) (hk : k + 1 < D) : ∃ q, q < P ∧ St p q ∧ G (D - (k + 1)) q (x - ρ p) ∧ (∀ q', q' < q → ¬ (St p q' ∧ G (D - (k + 1)) q' (x - ρ p))) ∧ chP G St P ρ D p0 x0 (k + 1) q (x - ρ p) := by
  obtain ⟨hp, g⟩ := chP_in h0 hG k p x h
  obtain ⟨q0, q1, q2, q3⟩ := hn (D - (k + 1)) p x hp (by omega) (by omega) (by rw [show D - (k + 1) + 1 = D - k by omega]; exact g)
  obtain ⟨q, ⟨a1, a2, a3⟩, a4⟩ := pk_least (fun q => q < P ∧ St p q ∧ G (D - (k + 1)) q (x - ρ p)) ⟨q0, q1, q2, q3⟩
  have a5 : ∀ q', q' < q → ¬ (St p q' ∧ G (D - (k + 1)) q' (x - ρ p)) := fun q' h1 h2 => a4 q' h1 ⟨by omega, h2.1, h2.2⟩
  exact ⟨q, a1, a2, a3, a5, p, x, h, rfl, a1, a2, a3, a5⟩
/-- the reference's second loop: the parts of the days, over what the search for one of them does -/
theorem m_path (N : Nat) {P : Nat} {mr mw : Nat → Int32} (p4 : Int32) (M : Nat → Int32) (cn : Nat → Int64) {G : Nat → Nat → Int → Prop} {St : Nat → Nat → Prop} {ρ : Nat → Int} {D p0 : Nat} {x0 : Int} (hr : spH P mr) (hρ : ∀ p, p < P → ρ p = (mr p).toInt) (hn : hasNext G St P ρ) (hD : D ≤ 40) (h0 : p0 < P) (hG : G D p0 x0) (hx0 : 0 ≤ x0) (hx1 : x0 ≤ 6000)
    (h122 : ∀ (k p q : Nat) (X : Int32) (fd : Nat → Int32) (rec : Int32 → Int32 → Int32 → (Nat → Int32) → Option (Nat → Int32)), 1 ≤ k → k < D → p < P → q < P → X.toInt ≤ 6000 → St p q → G (D - k) q X.toInt → (∀ q', q' < q → ¬ (St p q' ∧ G (D - k) q' X.toInt)) → f9_findStay_L122 N p4 mr mw M (nI D) cn (nI p) X (nI k) fd rec N (0 : Int32) = f9_findStay_J202 N mr X (nI k) fd (nI q) rec) :
    ∀ (m k n p : Nat) (X : Int32) (x : Int) (fd : Nat → Int32), k + m = D → m < n → 1 ≤ k → chP G St P ρ D p0 x0 (k - 1) p x → X.toInt = x - ρ p → (∀ j, j < k → ∃ (a : Nat) (y : Int), fd j = nI a ∧ chP G St P ρ D p0 x0 j a y) →
      ∃ fd', f9_findStay_L107 N p4 mr mw M (nI D) cn n (nI p) X (nI k) fd = some fd' ∧ ∀ j, j < D → ∃ (a : Nat) (y : Int), fd' j = nI a ∧ chP G St P ρ D p0 x0 j a y := by
  have hP := hr.1
  have hρ' : ∀ p, p < P → 0 ≤ ρ p ∧ ρ p ≤ 540 := fun p hp => by
    obtain ⟨c, c1, c2, c3⟩ := hr.2 p hp
    rw [hρ p hp, c3, t_nI (by omega)]
    omega
  intro m
  induction m with
  | zero =>
    intro k n p X x fd hk hn1 h1 hc hX hf
    obtain ⟨n, rfl⟩ : ∃ n', n = n' + 1 := ⟨n - 1, by omega⟩
    exact ⟨fd, by rw [f9_findStay_L107, if_pos (nI_le (by omega) (by omega))], fun j hj => hf j (by omega)⟩
  | succ m ih =>
    intro k n p X x fd hk hn1 h1 hc hX hf
    obtain ⟨n, rfl⟩ : ∃ n', n = n' + 1 := ⟨n - 1, by omega⟩
    obtain ⟨b1, b2, b3⟩ := chP_rng h0 hρ' (k - 1) p x hc
    obtain ⟨r1, r2⟩ := hρ' p b1
    obtain ⟨q, a1, a2, a3, a4, a5⟩ := chP_next hn hD h0 hG hc (by omega)
    rw [show k - 1 + 1 = k by omega] at a3 a4 a5
    rw [← hX] at a3 a4 a5
    rw [f9_findStay_L107, if_neg (nI_ge (by omega) (by omega)), if_neg (by rw [t_le, t_0, t_nI (by omega)]; omega), h122 k p q X fd _ h1 (by omega) b1 a1 (by omega) a2 a3 a4]
    unfold f9_findStay_J202
    rw [x_gi (by omega) (by omega), x_gi (by omega) (by omega), cl_nI (by omega), cl_nI (by omega), nI_1]
    obtain ⟨s1, s2⟩ := hρ' q a1
    rw [hρ q a1] at s1 s2
    refine ih (k + 1) n q (X - mr q) X.toInt (upd fd k (nI q)) (by omega) (by omega) (by omega) a5 ?_ (fun j hj => ?_)
    · rw [t_sub (by omega) (by omega), hρ q a1]
    · by_cases c : j = k
      · subst c
        exact ⟨q, X.toInt, pk_us, a5⟩
      · rw [pk_un c]
        exact hf j (by omega)
theorem m_path0 (N : Nat) (hN : 50 ≤ N) {P : Nat} {mr mw : Nat → Int32} (p4 : Int32) (M : Nat → Int32) (cn : Nat → Int64) {G : Nat → Nat → Int → Prop} {St : Nat → Nat → Prop} {ρ : Nat → Int} {D p0 : Nat} {X0 : Int32} (hr : spH P mr) (hρ : ∀ p, p < P → ρ p = (mr p).toInt) (hn : hasNext G St P ρ) (h1 : 1 ≤ D) (hD : D ≤ 40) (h0 : p0 < P) (hG : G D p0 X0.toInt) (hx0 : 0 ≤ X0.toInt) (hx1 : X0.toInt ≤ 6000)
    (h122 : ∀ (k p q : Nat) (X : Int32) (fd : Nat → Int32) (rec : Int32 → Int32 → Int32 → (Nat → Int32) → Option (Nat → Int32)), 1 ≤ k → k < D → p < P → q < P → X.toInt ≤ 6000 → St p q → G (D - k) q X.toInt → (∀ q', q' < q → ¬ (St p q' ∧ G (D - k) q' X.toInt)) → f9_findStay_L122 N p4 mr mw M (nI D) cn (nI p) X (nI k) fd rec N (0 : Int32) = f9_findStay_J202 N mr X (nI k) fd (nI q) rec) (fd : Nat → Int32) :
    ∃ fd', f9_findStay_L107 N p4 mr mw M (nI D) cn N (nI p0) X0 (0 : Int32) fd = some fd' ∧ ∀ j, j < D → ∃ (a : Nat) (y : Int), fd' j = nI a ∧ chP G St P ρ D p0 X0.toInt j a y := by
  obtain ⟨N', rfl⟩ : ∃ n', N = n' + 1 := ⟨N - 1, by omega⟩
  have hP := hr.1
  obtain ⟨c, c1, c2, c3⟩ := hr.2 p0 h0
  have s : (mr p0).toInt = (c : Int) := by rw [c3, t_nI (by omega)]
  rw [f9_findStay_L107, if_neg (by rw [t_le, t_0, t_nI (by omega)]; omega), if_pos (by decide), gi_ok (i := 0) (by decide) (by decide), x_gi (by omega) (by omega), n_0, cl_nI (by omega)]
  have e01 : (0 : Int32) + 1 = nI 1 := rfl
  rw [e01]
  exact m_path (N' + 1) p4 M cn hr hρ hn hD h0 hG hx0 hx1 h122 (D - 1) 1 N' p0 (X0 - mr p0) X0.toInt (upd fd 0 (nI p0)) (by omega) (by omega) (by omega) ⟨rfl, rfl⟩ (by rw [t_sub (by omega) (by omega), hρ p0 h0]) (fun j hj => ⟨p0, X0.toInt, by rw [show j = 0 by omega]; exact pk_us, by rw [show j = 0 by omega]; exact ⟨rfl, rfl⟩⟩)
