/-! numbers: Int32 by its toInt -/
theorem t_lt (a b : Int32) : a < b ↔ a.toInt < b.toInt := Int32.lt_iff_toInt_lt
theorem t_le (a b : Int32) : a ≤ b ↔ a.toInt ≤ b.toInt := Int32.le_iff_toInt_le
theorem t_eq (a b : Int32) : a = b ↔ a.toInt = b.toInt := Int32.toInt_inj.symm
theorem t_rng (a : Int32) : -2147483648 ≤ a.toInt ∧ a.toInt < 2147483648 := ⟨Int32.le_toInt a, Int32.toInt_lt a⟩
theorem t_add {a b : Int32} (h1 : -2147483648 ≤ a.toInt + b.toInt) (h2 : a.toInt + b.toInt < 2147483648) : (a + b).toInt = a.toInt + b.toInt := by
  rw [Int32.toInt_add]
  exact Int.bmod_eq_of_le (by omega) (by omega)
theorem t_sub {a b : Int32} (h1 : -2147483648 ≤ a.toInt - b.toInt) (h2 : a.toInt - b.toInt < 2147483648) : (a - b).toInt = a.toInt - b.toInt := by
  rw [Int32.toInt_sub]
  exact Int.bmod_eq_of_le (by omega) (by omega)
theorem t_mul {a b : Int32} (h1 : -2147483648 ≤ a.toInt * b.toInt) (h2 : a.toInt * b.toInt < 2147483648) : (a * b).toInt = a.toInt * b.toInt := by
  rw [Int32.toInt_mul]
  exact Int.bmod_eq_of_le (by omega) (by omega)
theorem t_n (a : Int32) : a.toNatClampNeg = a.toInt.toNat := rfl
theorem t_nI {n : Nat} (h : n < 2147483648) : (nI n).toInt = (n : Int) := nI_toInt h
theorem t_0 : (0 : Int32).toInt = 0 := rfl
theorem t_1 : (1 : Int32).toInt = 1 := rfl
theorem t_2 : (2 : Int32).toInt = 2 := rfl
theorem t_3 : (3 : Int32).toInt = 3 := rfl
theorem t_5 : (5 : Int32).toInt = 5 := rfl
theorem t_6 : (6 : Int32).toInt = 6 := rfl
theorem t_7 : (7 : Int32).toInt = 7 := rfl
theorem t_8 : (8 : Int32).toInt = 8 := rfl
theorem t_10 : (10 : Int32).toInt = 10 := rfl
theorem t_40 : (40 : Int32).toInt = 40 := rfl
theorem t_60 : (60 : Int32).toInt = 60 := rfl
theorem t_m1 : (-1 : Int32).toInt = -1 := rfl
theorem gi_ok {C : Type} {i : Int32} {n : Nat} {x : Option C} (h0 : 0 ≤ i.toInt) (h1 : i.toInt < n) : gi i n x = x := if_pos ⟨h0, h1⟩
theorem gz_ok {C : Type} {d : Int32} {x : Option C} (h : d ≠ 0) : gz d x = x := if_neg h
theorem gb_0 {C : Type} {x : Option C} : gb 0 x = x := if_pos (Or.inl rfl)
theorem gb_1 {C : Type} {x : Option C} : gb 1 x = x := if_pos (Or.inr rfl)
theorem gb_if {C : Type} {p : Prop} [Decidable p] {x : Option C} : gb (if p then 1 else 0) x = x := by
  split
  · exact gb_1
  · exact gb_0
theorem ob1_k {A C : Type} {a : A} {k : A → Option C} : ob1 (some a) k = k a := rfl
theorem ob2_k {A B C : Type} {a : A} {b : B} {k : A → B → Option C} : ob2 (some (a, b)) k = k a b := rfl
theorem n_0 : (0 : Int32).toNatClampNeg = 0 := rfl
theorem n_1 : (1 : Int32).toNatClampNeg = 1 := rfl
/-! parts, mouths, ways -/
theorem x_hasPart (N : Nat) (p v : Int32) : f0_hasPart N p v = some (if 0 ≤ p.toInt ∧ p.toInt < v.toInt ∧ p.toInt < 7 then 1 else 0) := by
  unfold f0_hasPart
  simp only [t_lt, t_le, t_0, t_7]
  repeat' split
  all_goals first | rfl | (exfalso; omega)
theorem m_in (N : Nat) (v a b : Int32) : f9_in N v a b = some (if a.toInt ≤ v.toInt ∧ v.toInt ≤ b.toInt then 1 else 0) := by
  unfold f9_in
  simp only [t_lt]
  repeat' split
  all_goals first | rfl | (exfalso; omega)
theorem m_isPart (N : Nat) (p : Int32) (a : Nat → Int32) (P : Nat) (hP : P ≤ 7) (ha : a 0 = nI P) : f9_isPart N p a = some (if 0 ≤ p.toInt ∧ p.toInt < P then 1 else 0) := by
  unfold f9_isPart
  rw [gi_ok (by decide) (by decide), n_0, ha, m_in, ob1_k, gb_if]
  have e : (nI P - 1).toInt = (P : Int) - 1 := by
    rw [t_sub (by rw [t_nI (by omega), t_1]; omega) (by rw [t_nI (by omega), t_1]; omega), t_nI (by omega), t_1]
  rw [e, t_0]
  congr 1
  repeat' split
  all_goals first | rfl | (exfalso; omega)
theorem b_z {p : Prop} [Decidable p] : ((if p then (1 : Int32) else 0) = 0) = ¬ p := by
  by_cases h : p
  · simp [h]
  · simp [h]
theorem b_o {p : Prop} [Decidable p] : ((if p then (1 : Int32) else 0) = 1) = p := by
  by_cases h : p
  · simp [h]
  · simp [h]
theorem x_isDays (N : Nat) (p : Int32) : f8_isDays N p = some (if 1 ≤ p.toInt ∧ p.toInt ≤ 40 then 1 else 0) := by
  unfold f8_isDays
  simp only [t_lt, t_1, t_40]
  repeat' split
  all_goals first | rfl | (exfalso; omega)
theorem ob4_k {A B C D E : Type} {a : A} {b : B} {c : C} {d : D} {k : A → B → C → D → Option E} : ob4 (some (a, b, c, d)) k = k a b c d := rfl
theorem ob3_k {A B C E : Type} {a : A} {b : B} {c : C} {k : A → B → C → Option E} : ob3 (some (a, b, c)) k = k a b c := rfl
theorem up_s {α : Type} (f : Nat → Int32) (k : Nat) (x : Int32) : upd f k x k = x := pk_us
theorem up_n {f : Nat → Int32} {k j : Nat} {x : Int32} (h : j ≠ k) : upd f k x j = f j := pk_un h
theorem cl_nI {k : Nat} (h : k < 2147483648) : (nI k).toNatClampNeg = k := nI_clamp h
/-! TRIED -/
def RTry (c : Int32) (d t : Nat → Int32) (sm : Int32) (sd st : Nat → Int32) : Prop := ∃ k : Nat, k ≤ 10 ∧ c = nI k ∧ sm = nI k ∧ ∀ j, j < k → d j = sd j ∧ t j = st j ∧ 1 ≤ (d j).toInt ∧ (d j).toInt ≤ 40 ∧ 0 ≤ (t j).toInt ∧ (t j).toInt ≤ 99999
theorem q_tryOut (N : Nat) (p1 p2 c : Int32) (d t : Nat → Int32) (sm : Int32) (sd st : Nat → Int32) (h : RTry c d t sm sd st) :
    ∃ (r c' : Int32) (d' t' : Nat → Int32) (sm' : Int32) (sd' st' : Nat → Int32), f8_tryOut N p1 p2 c d t = some (r, c', d', t') ∧ f9_tryOut N p1 p2 sm sd st = some (r, sm', sd', st') ∧ RTry c' d' t' sm' sd' st' := by
  obtain ⟨k, hk, rfl, rfl, hE⟩ := h
  have hk1 : (nI k).toInt = (k : Int) := t_nI (by omega)
  have t9 : (99999 : Int32).toInt = 99999 := rfl
  unfold f8_tryOut f9_tryOut f7_add
  simp only [x_isDays, m_in, ob1_k, b_z, ite_not, t_lt, t_le, t_0, t_1, t_40, t_10, hk1, t9]
  by_cases h1 : 1 ≤ p1.toInt ∧ p1.toInt ≤ 40
  · by_cases h2 : 0 ≤ p2.toInt ∧ p2.toInt ≤ 99999
    · by_cases h3 : k = 10
      · subst h3
        refine ⟨-1000000004, nI 10, d, t, nI 10, sd, st, ?_, ?_, 10, by omega, rfl, rfl, hE⟩
        · simp [h1, h2, ob4_k, show ¬ p2.toInt < 0 by omega]
        · simp [h1, h2, show nI 10 = (10 : Int32) from rfl]
      · have hlt : k < 10 := by omega
        refine ⟨nI (k + 1), nI (k + 1), upd d k p1, upd t k p2, nI (k + 1), upd sd k p1, upd st k p2, ?_, ?_, k + 1, by omega, rfl, rfl, ?_⟩
        · rw [gi_ok (by omega) (by omega), gi_ok (by omega) (by omega), cl_nI (by omega), nI_1]
          simp [h1, h2, ob4_k, show ¬ p2.toInt < 0 by omega, show ¬ (k : Int) < 0 by omega, show (k : Int) < 10 by omega]
        · rw [gi_ok (by omega) (by omega), gi_ok (by omega) (by omega), cl_nI (by omega), nI_1]
          have hne : ¬ nI k = (10 : Int32) := fun e => h3 ((nI_eq (by omega) (by omega)).mp (e.trans (show (10 : Int32) = nI 10 from rfl)))
          simp [h1, h2, hne]
        · intro j hj
          by_cases e : j = k
          · subst e
            rw [pk_us, pk_us, pk_us, pk_us]
            exact ⟨rfl, rfl, h1.1, h1.2, h2.1, h2.2⟩
          · rw [pk_un e, pk_un e, pk_un e, pk_un e]
            exact hE j (by omega)
    · refine ⟨-1000000002, nI k, d, t, nI k, sd, st, ?_, ?_, k, hk, rfl, rfl, hE⟩
      · by_cases h4 : p2.toInt < 0
        · simp [h1, h4]
        · simp [h1, h4, show ¬ p2.toInt ≤ 99999 by omega]
      · simp [h1, h2]
  · refine ⟨-1000000002, nI k, d, t, nI k, sd, st, ?_, ?_, k, hk, rfl, rfl, hE⟩
    · simp [h1]
    · simp [h1]
