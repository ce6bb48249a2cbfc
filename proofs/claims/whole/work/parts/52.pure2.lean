/-! people -/
def RPe (Q : Nat) (dq : Int32) (per : Nat → Int32) : Prop := Q ≤ 6 ∧ dq = nI Q ∧ per 0 = nI Q
def RFo (Q : Nat) (dt : Int32) (ag ri ou : Nat → Int32) (o : Nat) (now : Nat → Int32) : Prop := dt = now o ∧ 0 ≤ dt.toInt ∧ dt.toInt ≤ 9999999 ∧ ∀ q, q < Q → ag q = now (o + 1 + q) ∧ ri q = now (o + 7 + q) ∧ 0 ≤ (ri q).toInt ∧ (ri q).toInt ≤ 999999999 ∧ 0 ≤ (now (o + 13 + q)).toInt ∧ (now (o + 13 + q)).toInt ≤ 10100000 ∧ ou q = (if now o < now (o + 13 + q) then now (o + 13 + q) else -1)
theorem x_hasPerson (N : Nat) (p : Int32) (Q : Nat) (hQ : Q ≤ 6) : f0_hasPerson N p (nI Q) = some (if 0 ≤ p.toInt ∧ p.toInt < Q then 1 else 0) := by
  unfold f0_hasPerson
  simp only [t_lt, t_le, t_0, t_6, t_nI (show Q < 2147483648 by omega)]
  repeat' split
  all_goals first | rfl | (exfalso; omega)
theorem m_isPerson (N : Nat) (p : Int32) (a : Nat → Int32) (Q : Nat) (hQ : Q ≤ 6) (ha : a 0 = nI Q) : f9_isPerson N p a = some (if 0 ≤ p.toInt ∧ p.toInt < Q then 1 else 0) := by
  unfold f9_isPerson
  rw [gi_ok (by decide) (by decide), n_0, ha, m_in, ob1_k, gb_if]
  have e : (nI Q - 1).toInt = (Q : Int) - 1 := by
    rw [t_sub (by rw [t_nI (by omega), t_1]; omega) (by rw [t_nI (by omega), t_1]; omega), t_nI (by omega), t_1]
  rw [e, t_0]
  congr 1
  repeat' split
  all_goals first | rfl | (exfalso; omega)
theorem m_gi {C : Type} {c q n : Nat} {x : Option C} (h : c + q < n) (hn : n < 100000) : gi (nI c + nI q) n x = x := by
  rw [nI_add]
  exact gi_ok (by rw [t_nI (by omega)]; omega) (by rw [t_nI (by omega)]; omega)
theorem m_cl {c q : Nat} (h : c + q < 100000) : (nI c + nI q).toNatClampNeg = c + q := by
  rw [nI_add, cl_nI (by omega)]
theorem l_13 : (13 : Int32) = nI 13 := rfl
theorem l_7 : (7 : Int32) = nI 7 := rfl
theorem l_1 : (1 : Int32) = nI 1 := rfl
theorem l_0 : (0 : Int32) = nI 0 := rfl
theorem x_gi {C : Type} {q n : Nat} {x : Option C} (h : q < n) (hn : n < 100000) : gi (nI q) n x = x := gi_ok (by rw [t_nI (by omega)]; omega) (by rw [t_nI (by omega)]; omega)
theorem m_isDown (N : Nat) {q : Nat} (hq : q < 6) (now : Nat → Int32) : f9_isDown N (nI q) now = some (if now 0 < now (13 + q) then 1 else 0) := by
  unfold f9_isDown
  rw [l_13, m_gi (by omega) (by omega), gi_ok (by decide) (by decide), m_cl (by omega), n_0]
  simp only [t_le, t_lt]
  repeat' split
  all_goals first | rfl | (exfalso; omega)
theorem q_person (N : Nat) (p1 p2 : Int32) {Q : Nat} {dq : Int32} {per : Nat → Int32} (hp : RPe Q dq per) {dt : Int32} {ag ri ou now : Nat → Int32} (hf : RFo Q dt ag ri ou 0 now) :
    ∃ r : Int32, f8_person N p1 p2 dq ag ri ou = some r ∧ f9_person N p1 p2 per now = some r := by
  obtain ⟨hQ, rfl, hq0⟩ := hp
  obtain ⟨-, -, -, hE⟩ := hf
  unfold f8_person f9_person
  rw [x_hasPerson N p1 Q hQ, m_isPerson N p1 per Q hQ hq0]
  simp only [ob1_k, b_z, ite_not]
  by_cases h1 : 0 ≤ p1.toInt ∧ p1.toInt < Q
  · obtain ⟨q, hq, rfl⟩ := nI_nat h1.1 h1.2
    obtain ⟨e1, e2, -, -, -, -, e3⟩ := hE q hq
    simp only [Nat.zero_add] at e1 e2 e3
    rw [if_pos h1, if_pos h1, x_gi (by omega) (by omega), x_gi (by omega) (by omega), x_gi (by omega) (by omega), l_1, l_7, l_13, m_gi (by omega) (by omega), m_gi (by omega) (by omega), m_gi (by omega) (by omega), m_cl (by omega), m_cl (by omega), m_cl (by omega), cl_nI (by omega), m_isDown N (by omega), e1, e2, e3]
    simp only [ob1_k, b_z, ite_not]
    by_cases g0 : p2 = 0
    · exact ⟨now (1 + q), by simp [g0], by simp [g0]⟩
    · by_cases g1 : p2 = nI 1
      · exact ⟨now (7 + q), by rw [if_neg g0, if_pos g1], by rw [if_neg g0, if_pos g1]⟩
      · by_cases g2 : p2 = 2
        · by_cases g3 : now 0 < now (13 + q)
          · exact ⟨now (13 + q), by rw [if_neg g0, if_neg g1, if_pos g2, if_pos g3], by rw [if_neg g0, if_neg g1, if_pos g2, if_pos g3]⟩
          · exact ⟨-1, by rw [if_neg g0, if_neg g1, if_pos g2, if_neg g3], by rw [if_neg g0, if_neg g1, if_pos g2, if_neg g3]; rfl⟩
        · exact ⟨-1000000002, by rw [if_neg g0, if_neg g1, if_neg g2], by rw [if_neg g0, if_neg g1, if_neg g2]⟩
  · exact ⟨-1000000001, by rw [if_neg h1], by rw [if_neg h1]⟩
theorem q_downSet (N : Nat) (hN : 10 ≤ N) {Q : Nat} {dq : Int32} {per : Nat → Int32} (hp : RPe Q dq per) {dt : Int32} {ag ri ou now : Nat → Int32} (hf : RFo Q dt ag ri ou 0 now) :
    ∃ r : Int32, f2_downSet N dq ou = some r ∧ f9_downSet N per now = some r := by
  obtain ⟨hQ, rfl, hq0⟩ := hp
  obtain ⟨-, -, -, hE⟩ := hf
  have L : ∀ (n j : Nat) (x : Int32), j ≤ Q → Q + 1 ≤ j + n → ∃ r : Int32, f2_downSet_L4 N (nI Q) ou n x (nI j) = some r ∧ f9_downSet_L4 N per now n x (nI j) = some r := by
    intro n
    induction n with
    | zero => intro j x h1 h2; omega
    | succ n ih =>
      intro j x h1 h2
      rw [f2_downSet_L4, f9_downSet_L4, gi_ok (i := 0) (by decide) (by decide), n_0, hq0]
      by_cases hjk : j = Q
      · subst hjk
        exact ⟨x, by rw [if_pos (nI_le (Nat.le_refl _) (by omega))], by rw [if_pos (nI_le (Nat.le_refl _) (by omega))]⟩
      · have hlt : j < Q := by omega
        obtain ⟨-, -, -, -, e4, -, e3⟩ := hE j hlt
        simp only [Nat.zero_add] at e3 e4
        rw [if_neg (nI_ge hlt (by omega)), if_neg (nI_ge hlt (by omega)), if_neg (fun q => by rw [t_le, t_6, t_nI (by omega)] at q; omega), x_gi (by omega) (by omega), cl_nI (by omega), m_isDown N (by omega), e3, nI_1]
        simp only [ob1_k, b_z, ite_not]
        by_cases g3 : now 0 < now (13 + j)
        · have g4 : ¬ now (13 + j) = -1 := fun e => by rw [e] at e4; exact absurd e4 (by decide)
          simp only [g3, if_true, g4, if_false]
          exact ih (j + 1) _ hlt (by omega)
        · simp only [g3, if_false, if_true]
          rw [show x ||| 0 = x from Int32.or_zero]
          exact ih (j + 1) _ hlt (by omega)
  obtain ⟨r, h1, h2⟩ := L N 0 0 (Nat.zero_le _) (by omega)
  refine ⟨r, ?_, ?_⟩
  · unfold f2_downSet
    rw [l_0]
    rw [l_0] at h1
    rw [h1]; rfl
  · unfold f9_downSet
    rw [l_0]
    rw [l_0] at h2
    rw [h2]; rfl
