/-! REGISTERS: two lines -/
def RLn (c : Int32) (d a : Nat → Int32) (sm : Int32) (sd sa : Nat → Int32) : Prop := ∃ k : Nat, k ≤ 8 ∧ c = nI k ∧ sm = nI k ∧ ∀ j, j < k → d j = sd j ∧ a j = sa j ∧ 0 ≤ (sd j).toInt ∧ (sd j).toInt ≤ 500 ∧ 0 ≤ (sa j).toInt ∧ (sa j).toInt ≤ 200
def agI (sd sa : Nat → Int32) (a b : Nat) : Prop := ((sd a).toInt ≤ (sd b).toInt ∧ 0 ≤ (sa b).toInt - (sa a).toInt ∧ (sa b).toInt - (sa a).toInt ≤ (sd b).toInt - (sd a).toInt) ∨ ((sd b).toInt < (sd a).toInt ∧ 0 ≤ (sa a).toInt - (sa b).toInt ∧ (sa a).toInt - (sa b).toInt ≤ (sd a).toInt - (sd b).toInt)
theorem x_has (N : Nat) (p : Int32) {k : Nat} (hk : k ≤ 8) : f4_has N p (nI k) = some (if 0 ≤ p.toInt ∧ p.toInt < k then 1 else 0) := by
  unfold f4_has
  simp only [t_lt, t_le, t_0, t_8, t_nI (show k < 2147483648 by omega)]
  repeat' split
  all_goals first | rfl | (exfalso; omega)
theorem sub_s {x y : Int32} (h1 : 0 ≤ x.toInt) (h2 : x.toInt ≤ 500) (h3 : 0 ≤ y.toInt) (h4 : y.toInt ≤ 500) : (x - y).toInt = x.toInt - y.toInt := t_sub (by omega) (by omega)
theorem x_agree (N : Nat) {k a b : Nat} (hk : k ≤ 8) (ha : a < k) (hb : b < k) {d g sd sa : Nat → Int32} (hE : ∀ j, j < k → d j = sd j ∧ g j = sa j ∧ 0 ≤ (sd j).toInt ∧ (sd j).toInt ≤ 500 ∧ 0 ≤ (sa j).toInt ∧ (sa j).toInt ≤ 200) :
    (agI sd sa a b ∧ f4_agree N (nI a) (nI b) (nI k) d g = some 1) ∨ (¬ agI sd sa a b ∧ f4_agree N (nI a) (nI b) (nI k) d g = some 0) := by
  obtain ⟨a1, a2, a3, a4, a5, a6⟩ := hE a ha
  obtain ⟨b1, b2, b3, b4, b5, b6⟩ := hE b hb
  unfold f4_agree
  rw [x_has N _ hk, x_has N _ hk, if_pos (by rw [t_nI (by omega)]; omega), if_pos (by rw [t_nI (by omega)]; omega), ob1_k, if_neg (show ¬ (1 : Int32) = 0 by decide), ob1_k, if_neg (show ¬ (1 : Int32) = 0 by decide)]
  simp only [x_gi (show a < 8 by omega) (show 8 < 100000 by omega), x_gi (show b < 8 by omega) (show 8 < 100000 by omega), cl_nI (show a < 2147483648 by omega), cl_nI (show b < 2147483648 by omega)]
  rw [a1, a2, b1, b2]
  simp only [t_lt, t_0, sub_s b3 b4 a3 a4, sub_s b5 (by omega) a5 (show (sa a).toInt ≤ 500 by omega)]
  unfold agI
  by_cases c1 : (sd b).toInt - (sd a).toInt < 0
  · rw [if_pos c1]
    by_cases c2 : 0 < (sa b).toInt - (sa a).toInt
    · rw [if_pos c2]; exact Or.inr ⟨by omega, rfl⟩
    · rw [if_neg c2]
      by_cases c3 : (sa b).toInt - (sa a).toInt < (sd b).toInt - (sd a).toInt
      · rw [if_pos c3]; exact Or.inr ⟨by omega, rfl⟩
      · rw [if_neg c3]; exact Or.inl ⟨by omega, rfl⟩
  · rw [if_neg c1]
    by_cases c2 : (sa b).toInt - (sa a).toInt < 0
    · rw [if_pos c2]; exact Or.inr ⟨by omega, rfl⟩
    · rw [if_neg c2]
      by_cases c3 : (sd b).toInt - (sd a).toInt < (sa b).toInt - (sa a).toInt
      · rw [if_pos c3]; exact Or.inr ⟨by omega, rfl⟩
      · rw [if_neg c3]; exact Or.inl ⟨by omega, rfl⟩
theorem m_isOne (N : Nat) {k a b : Nat} (hk : k ≤ 8) (ha : a < k) (hb : b < k) {sd sa : Nat → Int32} (hE : ∀ j, j < k → 0 ≤ (sd j).toInt ∧ (sd j).toInt ≤ 500 ∧ 0 ≤ (sa j).toInt ∧ (sa j).toInt ≤ 200) :
    (agI sd sa a b ∧ f9_isOne N (nI a) (nI b) sd sa = some 1) ∨ (¬ agI sd sa a b ∧ f9_isOne N (nI a) (nI b) sd sa = some 0) := by
  obtain ⟨a3, a4, a5, a6⟩ := hE a ha
  obtain ⟨b3, b4, b5, b6⟩ := hE b hb
  have J : ∀ x y : Nat, x < k → y < k → f9_isOne_J31 N (nI x) sd sa (nI y) = some (if 0 ≤ (sa y).toInt - (sa x).toInt ∧ (sa y).toInt - (sa x).toInt ≤ (sd y).toInt - (sd x).toInt then 1 else 0) := by
    intro x y hx hy
    obtain ⟨x3, x4, x5, x6⟩ := hE x hx
    obtain ⟨y3, y4, y5, y6⟩ := hE y hy
    unfold f9_isOne_J31
    simp only [x_gi (show x < 8 by omega) (show 8 < 100000 by omega), x_gi (show y < 8 by omega) (show 8 < 100000 by omega), cl_nI (show x < 2147483648 by omega), cl_nI (show y < 2147483648 by omega)]
    rw [m_in, ob1_k, gb_if, t_0, sub_s y3 y4 x3 x4, sub_s y5 (by omega) x5 (show (sa x).toInt ≤ 500 by omega)]
  have J2 : ∀ x y : Nat, f9_isOne_J31b N (nI x) sd sa (nI y) = f9_isOne_J31 N (nI x) sd sa (nI y) := fun _ _ => rfl
  unfold f9_isOne
  rw [x_gi (show a < 8 by omega) (by omega), x_gi (show b < 8 by omega) (by omega), cl_nI (by omega), cl_nI (by omega), if_pos (rfl : nI a = nI a), J2]
  simp only [t_lt]
  unfold agI
  by_cases c1 : (sd b).toInt < (sd a).toInt
  · have hne : ¬ nI b = nI a := fun e => by
      have := (nI_eq (by omega) (by omega)).mp e
      rw [this] at c1
      omega
    rw [if_pos c1, if_neg hne, J b a hb ha]
    by_cases c : 0 ≤ (sa a).toInt - (sa b).toInt ∧ (sa a).toInt - (sa b).toInt ≤ (sd a).toInt - (sd b).toInt
    · rw [if_pos c]; exact Or.inl ⟨by omega, rfl⟩
    · rw [if_neg c]; exact Or.inr ⟨by omega, rfl⟩
  · rw [if_neg c1, J a b ha hb]
    by_cases c : 0 ≤ (sa b).toInt - (sa a).toInt ∧ (sa b).toInt - (sa a).toInt ≤ (sd b).toInt - (sd a).toInt
    · rw [if_pos c]; exact Or.inl ⟨by omega, rfl⟩
    · rw [if_neg c]; exact Or.inr ⟨by omega, rfl⟩
theorem q_canBeOne (N : Nat) (p1 p2 : Int32) {c : Int32} {d g : Nat → Int32} {sm : Int32} {sd sa : Nat → Int32} (h : RLn c d g sm sd sa) : ∃ r, f8_canBeOne N p1 p2 c d g = some r ∧ f9_canBeOne N p1 p2 sm sd sa = some r := by
  obtain ⟨k, hk, rfl, rfl, hE⟩ := h
  unfold f8_canBeOne f9_canBeOne
  have e : (nI k - 1).toInt = (k : Int) - 1 := by
    rw [t_sub (by rw [t_nI (by omega), t_1]; omega) (by rw [t_nI (by omega), t_1]; omega), t_nI (by omega), t_1]
  have mi : ∀ x : Int32, f9_in N x 0 (nI k - 1) = some (if 0 ≤ x.toInt ∧ x.toInt < k then 1 else 0) := fun x => by
    rw [m_in, e, t_0]
    congr 1
    repeat' split
    all_goals first | rfl | (exfalso; omega)
  rw [x_has N p1 hk, x_has N p2 hk, mi, mi]
  simp only [ob1_k]
  by_cases h1 : 0 ≤ p1.toInt ∧ p1.toInt < k
  · obtain ⟨a, ha, rfl⟩ := nI_nat h1.1 h1.2
    rw [if_pos h1, if_neg (show ¬ (1 : Int32) = 0 by decide), if_neg (show ¬ (1 : Int32) = 0 by decide)]
    by_cases h2 : 0 ≤ p2.toInt ∧ p2.toInt < k
    · obtain ⟨b, hb, rfl⟩ := nI_nat h2.1 h2.2
      rw [if_pos h2, if_neg (show ¬ (1 : Int32) = 0 by decide), if_neg (show ¬ (1 : Int32) = 0 by decide)]
      by_cases h3 : nI a = nI b
      · exact ⟨-1000000002, by rw [if_pos h3], by rw [if_pos h3]⟩
      · rw [if_neg h3, if_neg h3]
        rcases x_agree N hk ha hb hE with ⟨g1, g2⟩ | ⟨g1, g2⟩
        · rcases m_isOne N hk ha hb (fun j hj => (hE j hj).2.2) with ⟨g3, g4⟩ | ⟨g3, g4⟩
          · exact ⟨1, by rw [g2]; rfl, by rw [g4]; rfl⟩
          · exact absurd g1 g3
        · rcases m_isOne N hk ha hb (fun j hj => (hE j hj).2.2) with ⟨g3, g4⟩ | ⟨g3, g4⟩
          · exact absurd g3 g1
          · exact ⟨0, by rw [g2]; rfl, by rw [g4]; rfl⟩
    · exact ⟨-1000000002, by rw [if_neg h2, if_pos rfl], by rw [if_neg h2, if_pos rfl]⟩
  · exact ⟨-1000000002, by rw [if_neg h1, if_pos rfl], by rw [if_neg h1, if_pos rfl]⟩
theorem q_line (N : Nat) (p1 p2 c : Int32) (d t : Nat → Int32) (sm : Int32) (sd st : Nat → Int32) (h : RLn c d t sm sd st) :
    ∃ (r c' : Int32) (d' t' : Nat → Int32) (sm' : Int32) (sd' st' : Nat → Int32), f8_line N p1 p2 c d t = some (r, c', d', t') ∧ f9_line N p1 p2 sm sd st = some (r, sm', sd', st') ∧ RLn c' d' t' sm' sd' st' := by
  obtain ⟨k, hk, rfl, rfl, hE⟩ := h
  have hk1 : (nI k).toInt = (k : Int) := t_nI (by omega)
  have t5 : (500 : Int32).toInt = 500 := rfl
  have t2 : (200 : Int32).toInt = 200 := rfl
  unfold f8_line f9_line f4_add
  simp only [m_in, ob1_k, b_z, ite_not, t_lt, t_le, t_0, t_8, hk1, t5, t2]
  by_cases h1 : 0 ≤ p1.toInt ∧ p1.toInt ≤ 500
  · by_cases h2 : 0 ≤ p2.toInt ∧ p2.toInt ≤ 200
    · rw [if_neg (show ¬ p1.toInt < 0 by omega), if_neg (show ¬ 500 < p1.toInt by omega), if_neg (show ¬ p2.toInt < 0 by omega), if_pos h2.2, if_pos h1, if_pos h2]
      by_cases h3 : k = 8
      · subst h3
        refine ⟨-1000000004, nI 8, d, t, nI 8, sd, st, ?_, ?_, 8, by omega, rfl, rfl, hE⟩
        · rw [if_neg (by omega), if_neg (by omega), ob4_k]
        · rw [if_pos (show nI 8 = (8 : Int32) from rfl)]
      · have hlt : k < 8 := by omega
        have hne : ¬ nI k = (8 : Int32) := fun e => h3 ((nI_eq (by omega) (by omega)).mp (e.trans (show (8 : Int32) = nI 8 from rfl)))
        refine ⟨nI (k + 1), nI (k + 1), upd d k p1, upd t k p2, nI (k + 1), upd sd k p1, upd st k p2, ?_, ?_, k + 1, by omega, rfl, rfl, ?_⟩
        · rw [if_neg (by omega), if_pos (by omega), x_gi (by omega) (by omega), x_gi (by omega) (by omega), cl_nI (by omega), nI_1, ob4_k]
        · rw [if_neg hne, x_gi (by omega) (by omega), x_gi (by omega) (by omega), cl_nI (by omega), nI_1]
        · intro j hj
          by_cases e : j = k
          · subst e
            rw [pk_us, pk_us, pk_us, pk_us]
            exact ⟨rfl, rfl, h1.1, h1.2, h2.1, h2.2⟩
          · rw [pk_un e, pk_un e, pk_un e, pk_un e]
            exact hE j (by omega)
    · refine ⟨-1000000002, nI k, d, t, nI k, sd, st, ?_, ?_, k, hk, rfl, rfl, hE⟩
      · rw [if_neg (show ¬ p1.toInt < 0 by omega), if_neg (show ¬ 500 < p1.toInt by omega)]
        by_cases h4 : p2.toInt < 0
        · rw [if_pos h4]
        · rw [if_neg h4, if_neg (by omega)]
      · rw [if_pos h1, if_neg h2]
  · refine ⟨-1000000002, nI k, d, t, nI k, sd, st, ?_, ?_, k, hk, rfl, rfl, hE⟩
    · by_cases h4 : p1.toInt < 0
      · rw [if_pos h4]
      · rw [if_neg h4, if_pos (by omega)]
    · rw [if_neg h1]
