theorem x_letPassL (N : Nat) (hN : 200000 ≤ N) {Q i : Nat} (hQ : Q ≤ 6) (hi : i ≤ 50) {d p : Nat} (hd : d + p ≤ 9999999) (a : Nat → Nat) (ha : ∀ q, q < Q → a q ≤ 999999999) : ∀ (n j : Nat) (ag ri ou : Nat → Int32), j ≤ Q → Q + 1 ≤ j + n → (∀ q, j ≤ q → q < Q → ri q = nI (a q)) →
    ∃ ag' ri' ou', f2_letPass_L10 N (nI p) (nI d) (nI Q) (nI i) n (nI j) ag ri ou = some (ag', ri', ou') ∧ (∀ q, j ≤ q → q < Q → ag' q = ag q + (if (0 : Int32) < (nI (d + p) - (if nI d < ou q then ou q else nI d)) then (nI (d + p) - (if nI d < ou q then ou q else nI d)) else (0 : Int32)) ∧ ri' q = nI (gri i ((d + p) / 60 - d / 60) (a q)) ∧ ou' q = (if nI (d + p) < ou q then ou q else -1)) ∧ (∀ q, q < j → ag' q = ag q ∧ ri' q = ri q ∧ ou' q = ou q) := by
  intro n
  induction n with
  | zero => intro j ag ri ou h1 h2; omega
  | succ n ih =>
    intro j ag ri ou h1 h2 h3
    rw [f2_letPass_L10]
    by_cases hj : j = Q
    · subst hj
      exact ⟨ag, ri, ou, by rw [if_pos (nI_le (Nat.le_refl _) (by omega))], fun q h4 h5 => by omega, fun _ _ => ⟨rfl, rfl, rfl⟩⟩
    · have hlt : j < Q := by omega
      rw [if_neg (nI_ge hlt (by omega)), if_neg (show ¬ (6 : Int32) ≤ nI j from fun h => by rw [t_le, t_6, t_nI (by omega)] at h; omega), nI_add, x_ageAt N (by omega)]
      simp only [ob1_k]
      rw [x_gi (by omega) (by omega), x_richesAt N (by omega) hi hd (Nat.le_add_right _ _) (ha j hlt) hN (h3 j (Nat.le_refl _) hlt)]
      simp only [ob1_k]
      rw [x_gi (by omega) (by omega), x_gi (by omega) (by omega), x_gi (by omega) (by omega), cl_nI (by omega), nI_1]
      have fin : ∀ (ou1 : Nat → Int32), (ou1 j = (if nI (d + p) < ou j then ou j else -1)) → (∀ k, k ≠ j → ou1 k = ou k) →
          ∃ ag' ri' ou', f2_letPass_L10 N (nI p) (nI d) (nI Q) (nI i) n (nI (j + 1)) (upd ag j (ag j + (if (0 : Int32) < (nI (d + p) - (if nI d < ou j then ou j else nI d)) then (nI (d + p) - (if nI d < ou j then ou j else nI d)) else (0 : Int32)))) (upd ri j (nI (gri i ((d + p) / 60 - d / 60) (a j)))) ou1 = some (ag', ri', ou') ∧ (∀ q, j ≤ q → q < Q → ag' q = ag q + (if (0 : Int32) < (nI (d + p) - (if nI d < ou q then ou q else nI d)) then (nI (d + p) - (if nI d < ou q then ou q else nI d)) else (0 : Int32)) ∧ ri' q = nI (gri i ((d + p) / 60 - d / 60) (a q)) ∧ ou' q = (if nI (d + p) < ou q then ou q else -1)) ∧ (∀ q, q < j → ag' q = ag q ∧ ri' q = ri q ∧ ou' q = ou q) := by
        intro ou1 ho1 ho2
        obtain ⟨ag', ri', ou', e1, e2, e3⟩ := ih (j + 1) (upd ag j (ag j + (if (0 : Int32) < (nI (d + p) - (if nI d < ou j then ou j else nI d)) then (nI (d + p) - (if nI d < ou j then ou j else nI d)) else (0 : Int32)))) (upd ri j (nI (gri i ((d + p) / 60 - d / 60) (a j)))) ou1 hlt (by omega) (fun q h4 h5 => by rw [pk_un (by omega)]; exact h3 q (by omega) h5)
        refine ⟨ag', ri', ou', e1, fun q h4 h5 => ?_, fun q h4 => ?_⟩
        · by_cases e : q = j
          · subst e
            obtain ⟨g1, g2, g3⟩ := e3 q (by omega)
            rw [g1, g2, g3, pk_us, pk_us, ho1]
            exact ⟨rfl, rfl, rfl⟩
          · obtain ⟨g1, g2, g3⟩ := e2 q (by omega) h5
            rw [g1, g2, g3, pk_un e, ho2 q e]
            exact ⟨rfl, rfl, rfl⟩
        · obtain ⟨g1, g2, g3⟩ := e3 q (by omega)
          rw [g1, g2, g3, pk_un (by omega), pk_un (by omega), ho2 q (by omega)]
          exact ⟨rfl, rfl, rfl⟩
      by_cases c : nI (d + p) < ou j
      · rw [if_pos c]
        exact fin ou (by rw [if_pos c]) (fun _ _ => rfl)
      · rw [if_neg c]
        exact fin (upd ou j (-1)) (by rw [if_neg c, pk_us]) (fun k hk => by rw [pk_un hk])
/-- time passes: both sides, and the coupling holds again -/
theorem r_pass (N : Nat) (hN : 200000 ≤ N) {Q : Nat} {dq : Int32} {per : Nat → Int32} (hp : RPe Q dq per) {i : Nat} {di : Int32} {it : Nat → Int32} (hi : RIn i di it) {d p : Nat} (hd : d + p ≤ 9999999) {ag ri ou now : Nat → Int32} (hf : RFo Q (nI d) ag ri ou 0 now) :
    ∃ ag' ri' ou' now', f2_letPass N (nI p) (nI d) ag ri ou dq di = some (nI (d + p), ag', ri', ou') ∧ f9_passBy N (nI p) per it now = some now' ∧ RFo Q (nI (d + p)) ag' ri' ou' 0 now' ∧ ∀ j, 19 ≤ j → now' j = now j := by
  obtain ⟨hQ, rfl, hq0⟩ := hp
  obtain ⟨hi5, rfl, hi0⟩ := hi
  obtain ⟨hd0, -, -, hE⟩ := hf
  have ha0 : ∀ q : Nat, ∃ x : Nat, q < Q → x ≤ 999999999 ∧ ri q = nI x := fun q => by
    by_cases hq : q < Q
    · obtain ⟨-, -, e3, e4, -⟩ := hE q hq
      obtain ⟨x, h1, h2⟩ := nI_nat2 (M := 999999999) e3 e4
      exact ⟨x, fun _ => ⟨h1, h2⟩⟩
    · exact ⟨0, fun h => absurd h hq⟩
  obtain ⟨a, ha⟩ := Classical.axiomOfChoice ha0
  obtain ⟨ag', ri', ou', x1, x2, -⟩ := x_letPassL N hN hQ hi5 hd a (fun q hq => (ha q hq).1) N 0 ag ri ou (Nat.zero_le _) (by omega) (fun q _ hq => (ha q hq).2)
  have hle : d / 60 ≤ (d + p) / 60 := Nat.div_le_div_right (Nat.le_add_right _ _)
  obtain ⟨n1, y1, y2, y3⟩ := m_years21 N (by omega) hQ hi5 hq0 hi0 hd now hd0.symm N (d / 60 + 1) a now (fun q hq => (ha q hq).1) (by omega) (by omega) (fun q hq => by
    have e2 := (hE q hq).2.1
    rw [show 0 + 7 + q = 7 + q by omega] at e2
    rw [← e2, (ha q hq).2])
  obtain ⟨n2, z1, z2, z3⟩ := m_ages81 N hQ hq0 (nI p) now N 0 n1 (Nat.zero_le _) (by omega)
  have k0 : now 0 = nI d := hd0.symm
  refine ⟨ag', ri', ou', upd n2 0 (nI (d + p)), ?_, ?_, ⟨by rw [pk_us], by rw [t_nI (by omega)]; omega, by rw [t_nI (by omega)]; omega, fun q hq => ?_⟩, fun j hj => by rw [pk_un (by omega), z3 j (by omega), y3 j (by omega)]⟩
  · unfold f2_letPass
    rw [l_0, x1, nI_add]
    rfl
  · unfold f9_passBy
    rw [gi_ok (i := 0) (by decide) (by decide), gi_ok (i := 0) (by decide) (by decide), n_0, k0, l_60, pk_div (by omega) (by omega) (by omega), nI_1, y1]
    simp only [ob1_k]
    rw [l_0, z1]
    simp only [ob1_k]
    rw [x_gi (by omega) (by omega), nI_add]
  · obtain ⟨e1, e2, e3, e4, e5, e6, e7⟩ := hE q hq
    obtain ⟨w1, w2, w3⟩ := x2 q (Nat.zero_le _) hq
    simp only [Nat.zero_add] at e1 e5 e6 e7 ⊢
    have c1 : n2 (1 + q) = now (1 + q) + aInc (nI d + nI p) (nI d) (now (13 + q)) := by
      rw [z2 q (Nat.zero_le _) hq, y3 (1 + q) (by omega), y3 0 (by omega), y3 (13 + q) (by omega), k0]
    have c7 : n2 (7 + q) = nI (gri i ((d + p) / 60 - d / 60) (a q)) := by
      rw [z3 (7 + q) (by omega), y2 q hq, show (d + p) / 60 + 1 - (d / 60 + 1) = (d + p) / 60 - d / 60 by omega]
    have c13 : n2 (13 + q) = now (13 + q) := by rw [z3 (13 + q) (by omega), y3 (13 + q) (by omega)]
    have hb := gri_le (i := i) ((d + p) / 60 - d / 60) (ha q hq).1
    rw [pk_un (by omega), pk_un (by omega), pk_un (by omega), pk_us, c1, c7, c13, w1, w2, w3, e7, k0, e1, aInc_x hd e5 e6]
    refine ⟨rfl, rfl, by rw [t_nI (by omega)]; omega, by rw [t_nI (by omega)]; omega, e5, e6, ?_⟩
    by_cases g : nI d < now (13 + q)
    · rw [if_pos g]
    · rw [if_neg g]
      have g3 : ¬ nI (d + p) < (-1 : Int32) := fun h => by rw [t_lt, t_nI (by omega), t_m1] at h; omega
      have g4 : ¬ nI (d + p) < now (13 + q) := fun h => g (by
        rw [t_lt, t_nI (by omega)] at h ⊢
        omega)
      rw [if_neg g3, if_neg g4]
theorem q_pass (N : Nat) (hN : 200000 ≤ N) (p1 : Int32) {Q : Nat} {dq : Int32} {per : Nat → Int32} (hp : RPe Q dq per) {i : Nat} {di : Int32} {it : Nat → Int32} (hi : RIn i di it) {dt : Int32} {ag ri ou now : Nat → Int32} (hf : RFo Q dt ag ri ou 0 now) :
    ∃ r dt' ag' ri' ou' now', f8_pass N p1 dq di dt ag ri ou = some (r, dt', ag', ri', ou') ∧ f9_pass N p1 per it now = some (r, now') ∧ RFo Q dt' ag' ri' ou' 0 now' ∧ ∀ j, 19 ≤ j → now' j = now j := by
  obtain ⟨d, hd, rfl⟩ := nI_nat2 (M := 9999999) hf.2.1 hf.2.2.1
  unfold f8_pass f9_pass
  rw [m_in]
  simp only [ob1_k, b_z, ite_not, t_1, show (9999 : Int32).toInt = 9999 from rfl]
  rw [gi_ok (i := 0) (by decide) (by decide), n_0, show now 0 = nI d from hf.1.symm]
  by_cases h1 : 1 ≤ p1.toInt ∧ p1.toInt ≤ 9999
  · obtain ⟨p, hpp, rfl⟩ := nI_nat2 (M := 9999) (by omega) h1.2
    rw [if_neg (by rw [t_lt, t_1]; omega), if_pos (by rw [t_le]; exact h1.2), if_pos h1, nI_add]
    by_cases h2 : d + p ≤ 9999999
    · obtain ⟨ag', ri', ou', now', e1, e2, e3, e4⟩ := r_pass N hN hp hi (d := d) (p := p) h2 hf
      have c : nI (d + p) ≤ (9999999 : Int32) := by rw [t_le, t_nI (by omega)]; exact (by omega : ((d + p : Nat) : Int) ≤ 9999999)
      rw [if_pos c, if_pos c, e1, e2]
      refine ⟨nI (d + p), nI (d + p), ag', ri', ou', now', rfl, ?_, e3, e4⟩
      simp only [ob1_k]
      rw [gi_ok (i := 0) (by decide) (by decide), show now' 0 = nI (d + p) from e3.1.symm]
    · have c : ¬ nI (d + p) ≤ (9999999 : Int32) := fun h => by
        rw [t_le, t_nI (by omega)] at h
        have h' : ((d + p : Nat) : Int) ≤ 9999999 := h
        omega
      rw [if_neg c, if_neg c]
      exact ⟨-1000000004, nI d, ag, ri, ou, now, rfl, rfl, hf, fun _ _ => rfl⟩
  · refine ⟨-1000000002, nI d, ag, ri, ou, now, ?_, by rw [if_neg h1], hf, fun _ _ => rfl⟩
    by_cases h3 : p1 < (1 : Int32)
    · rw [if_pos h3]
    · rw [if_neg h3, if_neg (fun h => h1 ⟨by rw [t_lt, t_1] at h3; omega, by rw [t_le] at h; exact h⟩)]
