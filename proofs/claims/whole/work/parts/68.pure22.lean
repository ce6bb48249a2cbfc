/-! AT LEAST: the days, the parts -/
def rG (R : Nat → Nat → Int32 × Int32) (d q : Nat) (x : Int) : Prop := 0 ≤ (R d q).2.toInt ∧ x ≤ (R d q).2.toInt
abbrev stM (w : Nat → Int32) (p q : Nat) : Prop := spS (w p) p q
theorem rG_mx {R : Nat → Nat → Int32 × Int32} {d q : Nat} {T : Int32} : ¬ (R d q).2 < mx0 T ↔ rG R d q T.toInt := by
  unfold rG
  by_cases c : (0 : Int32) < T
  · rw [show mx0 T = T from if_pos c, t_lt]
    rw [t_lt, t_0] at c
    omega
  · rw [show mx0 T = 0 from if_neg c, t_lt, t_0]
    rw [t_lt, t_0] at c
    omega
theorem spF_at {w : Int32} {p : Nat} {lo hi : Nat → Int32} : ∀ k, (spF w p lo hi k).2 ≠ -1 → ∃ q, q < k ∧ spS w p q ∧ hi q = (spF w p lo hi k).2 := by
  intro k
  induction k with
  | zero => exact fun h => absurd rfl h
  | succ k ih =>
    intro h
    rw [spF] at h ⊢
    have keep : (spF w p lo hi k).2 ≠ -1 → ∃ q, q < k + 1 ∧ spS w p q ∧ hi q = (spF w p lo hi k).2 := fun g => by
      obtain ⟨q, a1, a2, a3⟩ := ih g
      exact ⟨q, by omega, a2, a3⟩
    by_cases c : spS w p k
    · rw [if_pos c] at h ⊢
      by_cases e : hi k = -1
      · rw [if_pos e] at h ⊢
        exact keep h
      · rw [if_neg e] at h ⊢
        by_cases g : (spF w p lo hi k).2 < hi k
        · refine ⟨k, by omega, c, ?_⟩
          show hi k = if (spF w p lo hi k).2 < hi k then hi k else (spF w p lo hi k).2
          rw [if_pos g]
        · have h' : (if (spF w p lo hi k).2 < hi k then hi k else (spF w p lo hi k).2) ≠ -1 := h
          show ∃ q, q < k + 1 ∧ spS w p q ∧ hi q = if (spF w p lo hi k).2 < hi k then hi k else (spF w p lo hi k).2
          rw [if_neg g] at h' ⊢
          exact keep h'
    · rw [if_neg c] at h ⊢
      exact keep h
theorem rG_next {P : Nat} {r w : Nat → Int32} {to : Nat} (hr : spH P r) : hasNext (rG (spR P r w to)) (stM w) P (fun p => (r p).toInt) := by
  intro e p x hp h1 he h
  obtain ⟨e, rfl⟩ : ∃ e', e = e' + 1 := ⟨e - 1, by omega⟩
  obtain ⟨c, c1, c2, c3⟩ := hr.2 p hp
  unfold rG at h
  rw [spR] at h
  have ok := spF_ok (w := w p) (p := p) (lo := fun q => (spR P r w to (e + 1) q).1) (hi := fun q => (spR P r w to (e + 1) q).2) (by omega) (fun q hq => spR_ok (to := to) (w := w) hr (e + 1) q (by omega) hq) P (Nat.le_refl _)
  rcases ok with z | ⟨a, b, a1, a2, a3, z⟩
  · rw [z] at h
    have h0 : (0 : Int) ≤ (-1 : Int32).toInt := h.1
    rw [t_m1] at h0
    omega
  · obtain ⟨q, q1, q2, q3⟩ := spF_at (w := w p) (p := p) (lo := fun q => (spR P r w to (e + 1) q).1) (hi := fun q => (spR P r w to (e + 1) q).2) P (by rw [z]; exact nI_nm1 (by omega))
    rw [z] at h q3
    have q3' : (spR P r w to (e + 1) q).2 = nI b := q3
    have h' : x ≤ (spP (nI b) (r p)).toInt := h.2
    unfold spP at h'
    rw [if_neg (nI_nm1 (by omega)), c3, nI_add, t_nI (by omega)] at h'
    refine ⟨q, q1, q2, ?_, ?_⟩
    · rw [q3', t_nI (by omega)]
      omega
    · show x - (r p).toInt ≤ (spR P r w to (e + 1) q).2.toInt
      rw [q3', t_nI (by omega), c3, t_nI (by omega)]
      omega
theorem sp_first (N : Nat) {P e p q D : Nat} (hP : P ≤ 7) (hp : p < P) (h1 : 1 ≤ e) (he : e ≤ 40) (heD : e ≤ D) {l m : Nat → Nat → Int32} {R : Nat → Nat → Int32 × Int32} (hA : spA D P R l m) (T : Int32) (dn : Nat → Int32) (hq : q < P) (hs : spS (dn p) p q) (hg : rG R e q T.toInt) (hno : ∀ q', q' < q → ¬ (spS (dn p) p q' ∧ rG R e q' T.toInt)) : ∀ (k j n : Nat), j + k = q → k < n → f5_firstReaching_L3 N (nI p) (nI e) T l m (nI P) dn n (nI j) = some (nI q) := by
  have w : ∀ j, j < P → m e j = (R e j).2 := fun j hj => congrArg Prod.snd (hA e j h1 heD hj)
  intro k
  induction k with
  | zero =>
    intro j n hj hn
    obtain ⟨n, rfl⟩ : ∃ n', n = n' + 1 := ⟨n - 1, by omega⟩
    have e0 : j = q := by omega
    subst e0
    rw [f5_firstReaching_L3, if_neg (c7 (by omega)), x_mayFollow N hP hp hq, ob1_k, if_pos hs, if_neg (by decide), sp_most N h1 he (by omega), ob1_k, w j hq, if_neg (rG_mx.mpr hg)]
  | succ k ih =>
    intro j n hj hn
    obtain ⟨n, rfl⟩ : ∃ n', n = n' + 1 := ⟨n - 1, by omega⟩
    have no := hno j (by omega)
    rw [f5_firstReaching_L3, if_neg (c7 (by omega)), x_mayFollow N hP hp (by omega), ob1_k, sp_most N h1 he (by omega), w j (by omega), nI_1]
    by_cases c : spS (dn p) p j
    · rw [if_pos c, if_neg (by decide), ob1_k, if_pos (Classical.not_not.mp (fun g => no ⟨c, rG_mx.mp g⟩))]
      exact ih (j + 1) n (by omega) (by omega)
    · rw [if_neg c, if_pos rfl]
      exact ih (j + 1) n (by omega) (by omega)
theorem sp_pod (N : Nat) (hN : 60 ≤ N) {P : Nat} {dr dn mp mr mw : Nat → Int32} (hc : RC P (nI P) dr dn mp mr mw) {to p0 D i : Nat} (hD : D ≤ 40) (h0 : p0 < P) {X0 : Int32} (hx0 : 0 ≤ X0.toInt) (hx1 : X0.toInt ≤ 6000) (hG : rG (spR P mr mw to) D p0 X0.toInt) {l m : Nat → Nat → Int32} (hA : spA D P (spR P mr mw to) l m) (hi : i < D) :
    ∃ (a : Nat) (y : Int), f5_partOfDay N (nI p0) X0 (nI D) (nI i) l m (nI P) dr dn = some (nI a) ∧ chP (rG (spR P mr mw to)) (stM mw) P (fun p => (mr p).toInt) D p0 X0.toInt i a y := by
  have hr := hc.h
  have hP := hc.1
  have hρ : ∀ p, p < P → 0 ≤ (mr p).toInt ∧ (mr p).toInt ≤ 540 := fun p hp => by
    obtain ⟨c, c1, c2, c3⟩ := hr.2 p hp
    rw [c3, t_nI (by omega)]
    omega
  have H : ∀ (k j n p : Nat) (X : Int32), j + k = i → k < n → chP (rG (spR P mr mw to)) (stM mw) P (fun p => (mr p).toInt) D p0 X0.toInt j p X.toInt → ∃ (a : Nat) (y : Int), f5_partOfDay_L9 N (nI D) (nI i) l m (nI P) dr dn n (nI p) X (nI j) = some (nI a) ∧ chP (rG (spR P mr mw to)) (stM mw) P (fun p => (mr p).toInt) D p0 X0.toInt i a y := by
    intro k
    induction k with
    | zero =>
      intro j n p X hj hn hch
      obtain ⟨n, rfl⟩ : ∃ n', n = n' + 1 := ⟨n - 1, by omega⟩
      have e : j = i := by omega
      subst e
      exact ⟨p, X.toInt, by rw [f5_partOfDay_L9, if_pos (nI_le (Nat.le_refl _) (by omega))], hch⟩
    | succ k ih =>
      intro j n p X hj hn hch
      obtain ⟨n, rfl⟩ : ∃ n', n = n' + 1 := ⟨n - 1, by omega⟩
      obtain ⟨b1, b2, b3⟩ := chP_rng h0 hρ j p X.toInt hch
      obtain ⟨s1, s2⟩ := hρ p b1
      obtain ⟨r1, r2, -, -⟩ := hc.2.2.2 p b1
      obtain ⟨q, a1, a2, a3, a4, a5⟩ := chP_next (rG_next hr) hD h0 hG hch (by omega)
      have hX : (X - mr p).toInt = X.toInt - (mr p).toInt := t_sub (by omega) (by omega)
      have a3' : rG (spR P mr mw to) (D - (j + 1)) q (X - mr p).toInt := by rw [hX]; exact a3
      have a4' : ∀ q', q' < q → ¬ (spS (dn p) p q' ∧ rG (spR P mr mw to) (D - (j + 1)) q' (X - mr p).toInt) := fun q' h => by rw [hX, r2]; exact a4 q' h
      have ff : f5_firstReaching N (nI p) (nI (D - (j + 1))) (X - mr p) l m (nI P) dn = some (nI q) := by
        unfold f5_firstReaching
        rw [← nI_0]
        exact sp_first N hP b1 (by omega) (by omega) (by omega) hA _ dn a1 (by rw [r2]; exact a2) a3' a4' q 0 N (by omega) (by omega)
      rw [f5_partOfDay_L9, if_neg (nI_ge (by omega) (by omega)), if_neg (by rw [t_le, t_40, t_nI (by omega)]; omega), x_rateOf N hP b1, ob1_k, r1, nI_pr (by omega), pk_sub (by omega), show D - 1 - j = D - (j + 1) by omega, ff, ob1_k, nI_1]
      exact ih (j + 1) n q (X - mr p) (by omega) (by omega) (by rw [hX]; exact a5)
  obtain ⟨a, y, e1, e2⟩ := H i 0 N p0 X0 (by omega) (by omega) ⟨rfl, rfl⟩
  refine ⟨a, y, ?_, e2⟩
  unfold f5_partOfDay
  rw [← nI_0, e1]
  rfl
theorem sp_122 (N : Nat) (hN : 60 ≤ N) {P : Nat} {mr mw : Nat → Int32} (hP : P ≤ 7) (p4 : Int32) (hp4 : p4 ≠ 0) (L M : Nat → Int32) (cn : Nat → Int64) {R : Nat → Nat → Int32 × Int32} (hR : ∀ d q, d ≤ 40 → q < P → (R d q).2 = -1 ∨ 0 ≤ (R d q).2.toInt) (hM : fsA 40 P R L M) {D : Nat} (hD : D ≤ 40) (k p q : Nat) (X : Int32) (fd : Nat → Int32) (rec : Int32 → Int32 → Int32 → (Nat → Int32) → Option (Nat → Int32)) (h1 : 1 ≤ k) (hk : k < D) (hp : p < P) (hq : q < P) (hs : stM mw p q) (hg : rG R (D - k) q X.toInt) (hno : ∀ q', q' < q → ¬ (stM mw p q' ∧ rG R (D - k) q' X.toInt)) :
    f9_findStay_L122 N p4 mr mw M (nI D) cn (nI p) X (nI k) fd rec N (0 : Int32) = f9_findStay_J202 N mr X (nI k) fd (nI q) rec := by
  have w : ∀ j, j < P → M (7 * (D - k) + j) = (R (D - k) j).2 := fun j hj => congrArg Prod.snd (hM (D - k) j (by omega) (by omega) hj)
  have H : ∀ (i j n : Nat), j + i = q → i < n → f9_findStay_L122 N p4 mr mw M (nI D) cn (nI p) X (nI k) fd rec n (nI j) = f9_findStay_J202 N mr X (nI k) fd (nI q) rec := by
    intro i
    induction i with
    | zero =>
      intro j n hj hn
      obtain ⟨n, rfl⟩ : ∃ n', n = n' + 1 := ⟨n - 1, by omega⟩
      have e0 : j = q := by omega
      subst e0
      unfold rG at hg
      rw [f9_findStay_L122, m_isStep N (by omega) (by omega), ob1_k, if_pos hs, if_neg (by decide), if_neg hp4, pk_sub (by omega), sp_ix N (by omega) (by omega)]
      simp only [ob1_k]
      rw [x_gi (by omega) (by omega), x_gi (by omega) (by omega), cl_nI (by omega), w j hq, if_neg (fun g => by rw [g, t_m1] at hg; omega), if_neg (by rw [t_lt]; omega)]
    | succ i ih =>
      intro j n hj hn
      obtain ⟨n, rfl⟩ : ∃ n', n = n' + 1 := ⟨n - 1, by omega⟩
      have no := hno j (by omega)
      rw [f9_findStay_L122, m_isStep N (by omega) (by omega), ob1_k, pk_sub (by omega), sp_ix N (by omega) (by omega)]
      simp only [ob1_k]
      rw [x_gi (by omega) (by omega), x_gi (by omega) (by omega), cl_nI (by omega), w j (by omega), nI_1]
      by_cases c : stM mw p j
      · rw [if_pos c, if_neg (by decide), if_neg hp4]
        by_cases g : (R (D - k) j).2 = -1
        · rw [if_pos g]
          exact ih (j + 1) n (by omega) (by omega)
        · by_cases g2 : (R (D - k) j).2 < X
          · rw [if_neg g, if_pos g2]
            exact ih (j + 1) n (by omega) (by omega)
          · refine absurd ⟨c, ?_, ?_⟩ no
            · exact (hR (D - k) j (by omega) (by omega)).resolve_left g
            · rw [t_lt] at g2
              omega
      · rw [if_neg c, if_pos rfl]
        exact ih (j + 1) n (by omega) (by omega)
  rw [← nI_0]
  exact H q 0 N (by omega) (by omega)
