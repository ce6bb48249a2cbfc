/-! the cave: both sides' parts, rates, ways -/
abbrev bW (x b : Int32) : Prop := ((x >>> (b &&& 31)) &&& (1 : Int32)) = (1 : Int32)
def RC (P : Nat) (dp : Int32) (dr dn mp mr mw : Nat → Int32) : Prop := P ≤ 7 ∧ dp = nI P ∧ mp 0 = nI P ∧ ∀ p, p < P → dr p = mr p ∧ dn p = mw p ∧ 10 ≤ (mr p).toInt ∧ (mr p).toInt ≤ 540
theorem ite_ite_b {p : Prop} [Decidable p] {α : Type} {a b : α} : (if ¬ p then a else b) = (if p then b else a) := by
  by_cases h : p
  · simp [h]
  · simp [h]
theorem x_part7 (N : Nat) (p : Int32) (P : Nat) (hP : P ≤ 7) : f0_hasPart N p (nI P) = some (if 0 ≤ p.toInt ∧ p.toInt < P then 1 else 0) := by
  rw [x_hasPart, t_nI (by omega)]
  congr 1
  by_cases h : 0 ≤ p.toInt ∧ p.toInt < P
  · rw [if_pos h, if_pos ⟨h.1, h.2, by omega⟩]
  · rw [if_neg h, if_neg (fun q => h ⟨q.1, q.2.1⟩)]
theorem x_hasMouth (N : Nat) (p : Int32) (P : Nat) (hP : P ≤ 7) (dm : Int32) : f0_hasMouth N p (nI P) dm = some (if (0 ≤ p.toInt ∧ p.toInt < P) ∧ bW dm p then 1 else 0) := by
  unfold f0_hasMouth
  rw [x_part7 N p P hP]
  simp only [ob1_k, b_z]
  by_cases h : 0 ≤ p.toInt ∧ p.toInt < P
  · by_cases h2 : bW dm p
    · simp [h, h2]
    · simp [h, h2]
  · simp [h]
theorem m_isMouth (N : Nat) (p : Int32) (P : Nat) (hP : P ≤ 7) (mp mm : Nat → Int32) (h0 : mp 0 = nI P) : f9_isMouth N p mp mm = some (if (0 ≤ p.toInt ∧ p.toInt < P) ∧ bW (mm 0) p then 1 else 0) := by
  unfold f9_isMouth
  rw [m_isPart N p mp P hP h0]
  simp only [ob1_k, b_z, n_0]
  rw [gi_ok (by decide) (by decide)]
  by_cases h : 0 ≤ p.toInt ∧ p.toInt < P
  · by_cases h2 : bW (mm 0) p
    · simp [h, h2]
    · simp [h, h2]
  · simp [h]
theorem nI_in7 {a P : Nat} (hP : P ≤ 7) (ha : a < P) : 0 ≤ (nI a).toInt ∧ (nI a).toInt < P := by
  rw [t_nI (by omega)]
  omega
theorem x_hasWay (N : Nat) {a b P : Nat} (hP : P ≤ 7) (ha : a < P) (hb : b < P) (dn : Nat → Int32) : f0_hasWay N (nI a) (nI b) (nI P) dn = some (if bW (dn a) (nI b) then 1 else 0) := by
  unfold f0_hasWay
  rw [x_part7 N _ P hP, x_part7 N _ P hP, if_pos (nI_in7 hP ha), if_pos (nI_in7 hP hb)]
  simp only [ob1_k]
  rw [if_neg (by decide), if_neg (by decide), gi_ok (nI_in7 hP ha).1 (by rw [t_nI (by omega)]; omega), cl_nI (by omega)]
  by_cases h2 : bW (dn a) (nI b)
  · simp [h2]
  · simp [h2]
theorem x_mayFollow (N : Nat) {a b P : Nat} (hP : P ≤ 7) (ha : a < P) (hb : b < P) (dn : Nat → Int32) : f0_mayFollow N (nI a) (nI b) (nI P) dn = some (if a = b ∨ bW (dn a) (nI b) then 1 else 0) := by
  unfold f0_mayFollow
  rw [x_part7 N _ P hP, if_pos (nI_in7 hP ha), x_hasWay N hP ha hb]
  simp only [ob1_k, b_z]
  rw [if_neg (by decide)]
  by_cases h1 : a = b
  · rw [if_pos (by rw [h1]), if_pos (Or.inl h1)]
  · rw [if_neg (fun e => h1 ((nI_eq (by omega) (by omega)).mp e))]
    by_cases h2 : bW (dn a) (nI b)
    · simp [h2]
    · simp [h1, h2]
theorem m_isStep (N : Nat) {a b : Nat} (ha : a < 14) (hb : b < 14) (mw : Nat → Int32) : f9_isStep N (nI a) (nI b) mw = some (if a = b ∨ bW (mw a) (nI b) then 1 else 0) := by
  unfold f9_isStep
  by_cases h1 : a = b
  · rw [if_pos (by rw [h1]), if_pos (Or.inl h1)]
  · rw [if_neg (fun e => h1 ((nI_eq (by omega) (by omega)).mp e)), gi_ok (by rw [t_nI (by omega)]; omega) (by rw [t_nI (by omega)]; omega), cl_nI (by omega)]
    by_cases h2 : bW (mw a) (nI b)
    · simp [h2]
    · simp [h1, h2]
theorem x_rateOf (N : Nat) {a P : Nat} (hP : P ≤ 7) (ha : a < P) (dr : Nat → Int32) : f0_rateOf N (nI a) (nI P) dr = some (dr a) := by
  unfold f0_rateOf
  rw [x_part7 N _ P hP, if_pos (nI_in7 hP ha)]
  simp only [ob1_k]
  rw [if_neg (by decide), gi_ok (nI_in7 hP ha).1 (by rw [t_nI (by omega)]; omega), cl_nI (by omega)]
theorem nI_nat {x : Int32} {P : Nat} (h0 : 0 ≤ x.toInt) (h1 : x.toInt < P) : ∃ a, a < P ∧ x = nI a := ⟨x.toInt.toNat, by omega, Int32.toInt_inj.mp (by
  have := (t_rng x).2
  rw [t_nI (by omega)]
  omega)⟩
/-! THE STAY -/
def RSt (P : Nat) (c : Int32) (po : Nat → Int32) (sm : Int32) (st : Nat → Int32) : Prop := ∃ k : Nat, k ≤ 40 ∧ c = nI k ∧ sm = nI k ∧ ∀ j, j < k → po j = st j ∧ ∃ a, a < P ∧ st j = nI a
theorem nI_pr {j : Nat} (h : 1 ≤ j) : nI j - 1 = nI (j - 1) := by
  rw [show (1 : Int32) = nI 1 from rfl, pk_sub h]
theorem q_spend (N : Nat) (p1 : Int32) {P : Nat} {dp : Int32} {dr dn mp mr mw : Nat → Int32} (hc : RC P dp dr dn mp mr mw) {c : Int32} {po : Nat → Int32} {sm : Int32} {st : Nat → Int32} (hs : RSt P c po sm st) :
    ∃ (r c' : Int32) (po' : Nat → Int32) (sm' : Int32) (st' : Nat → Int32), f8_spend N p1 dp c po = some (r, c', po') ∧ f9_spend N p1 sm mp st = some (r, sm', st') ∧ RSt P c' po' sm' st' := by
  obtain ⟨hP, rfl, hm, hrw⟩ := hc
  obtain ⟨k, hk, rfl, rfl, hE⟩ := hs
  unfold f8_spend f9_spend f6_addDay
  rw [x_part7 N p1 P hP, m_isPart N p1 mp P hP hm]
  simp only [ob1_k, b_z, ite_not, t_lt, t_0, t_40, t_nI (show k < 2147483648 by omega)]
  by_cases h1 : 0 ≤ p1.toInt ∧ p1.toInt < P
  · obtain ⟨a, ha, rfl⟩ := nI_nat h1.1 h1.2
    by_cases h3 : k = 40
    · subst h3
      refine ⟨-1000000004, nI 40, po, nI 40, st, ?_, ?_, 40, by omega, rfl, rfl, hE⟩
      · simp [h1, ob3_k]
      · simp [h1, show nI 40 = (40 : Int32) from rfl]
    · have hlt : k < 40 := by omega
      refine ⟨nI (k + 1), nI (k + 1), upd po k (nI a), nI (k + 1), upd st k (nI a), ?_, ?_, k + 1, by omega, rfl, rfl, ?_⟩
      · rw [gi_ok (by rw [t_nI (by omega)]; omega) (by rw [t_nI (by omega)]; omega), cl_nI (by omega), nI_1]
        simp [h1, ob3_k, show ¬ (k : Int) < 0 by omega, show (k : Int) < 40 by omega]
      · rw [gi_ok (by rw [t_nI (by omega)]; omega) (by rw [t_nI (by omega)]; omega), cl_nI (by omega), nI_1]
        have hne : ¬ nI k = (40 : Int32) := fun e => h3 ((nI_eq (by omega) (by omega)).mp (e.trans (show (40 : Int32) = nI 40 from rfl)))
        simp [h1, hne]
      · intro j hj
        by_cases e : j = k
        · subst e
          rw [pk_us, pk_us]
          exact ⟨rfl, a, ha, rfl⟩
        · rw [pk_un e, pk_un e]
          exact hE j (by omega)
  · refine ⟨-1000000001, nI k, po, nI k, st, ?_, ?_, k, hk, rfl, rfl, hE⟩
    · simp [h1]
    · simp [h1]
theorem q_time (N : Nat) (hN : 50 ≤ N) {P : Nat} {dp : Int32} {dr dn mp mr mw : Nat → Int32} (hc : RC P dp dr dn mp mr mw) {c : Int32} {po : Nat → Int32} {sm : Int32} {st : Nat → Int32} (hs : RSt P c po sm st) :
    ∃ r : Int32, f6_time N c po dp dr = some r ∧ f9_stayTime N sm mr st = some r ∧ ∃ k : Nat, k ≤ 40 ∧ c = nI k ∧ 10 * (k : Int) ≤ r.toInt ∧ r.toInt ≤ 540 * k := by
  obtain ⟨hP, rfl, hm, hrw⟩ := hc
  obtain ⟨k, hk, rfl, rfl, hE⟩ := hs
  have L : ∀ (n j : Nat) (x : Int32), j ≤ k → k + 1 ≤ j + n → 10 * (j : Int) ≤ x.toInt → x.toInt ≤ 540 * j → ∃ r : Int32, f6_time_L4 N (nI k) po (nI P) dr n x (nI j) = some r ∧ f9_stayTime_L4 N (nI k) mr st n x (nI j) = some r ∧ 10 * (k : Int) ≤ r.toInt ∧ r.toInt ≤ 540 * k := by
    intro n
    induction n with
    | zero => intro j x h1 h2; omega
    | succ n ih =>
      intro j x h1 h2 h3 h4
      rw [f6_time_L4, f9_stayTime_L4]
      by_cases hjk : j = k
      · subst hjk
        exact ⟨x, by rw [if_pos (nI_le (Nat.le_refl _) (by omega))], by rw [if_pos (nI_le (Nat.le_refl _) (by omega))], h3, h4⟩
      · have hlt : j < k := by omega
        obtain ⟨e1, a, ha, e2⟩ := hE j hlt
        obtain ⟨r1, -, r3, r4⟩ := hrw a ha
        rw [if_neg (nI_ge hlt (by omega)), if_neg (nI_ge hlt (by omega)), if_neg (fun q => by rw [t_le, t_40, t_nI (by omega)] at q; omega)]
        rw [gi_ok (by rw [t_nI (by omega)]; omega) (by rw [t_nI (by omega)]; omega), gi_ok (by rw [t_nI (by omega)]; omega) (by rw [t_nI (by omega)]; omega), cl_nI (by omega), e1, e2, x_rateOf N hP ha, gi_ok (by rw [t_nI (by omega)]; omega) (by rw [t_nI (by omega)]; omega), cl_nI (by omega), r1, nI_1]
        simp only [ob1_k]
        have hx : (x + mr a).toInt = x.toInt + (mr a).toInt := t_add (by omega) (by omega)
        exact ih (j + 1) _ hlt (by omega) (by rw [hx]; omega) (by rw [hx]; omega)
  obtain ⟨r, h1, h2, h3, h4⟩ := L N 0 0 (Nat.zero_le _) (by omega) (by decide) (by decide)
  refine ⟨r, ?_, ?_, k, hk, rfl, h3, h4⟩
  · unfold f6_time
    rw [show (0 : Int32) = nI 0 from rfl] at *
    rw [h1]; rfl
  · unfold f9_stayTime
    rw [show (0 : Int32) = nI 0 from rfl] at *
    rw [h2]; rfl
