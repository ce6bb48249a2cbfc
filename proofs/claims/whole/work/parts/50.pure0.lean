/-! numbers: Int32 by its toInt -/
theorem t_lt (a b : Int32) : a < b ↔ a.toInt < b.toInt := Int32.lt_iff_toInt_lt
theorem t_le (a b : Int32) : a ≤ b ↔ a.toInt ≤ b.toInt := Int32.le_iff_toInt_le
theorem t_eq (a b : Int32) : a = b ↔ a.toInt = b.toInt := Int32.toInt_inj.symm
theorem t_rng (a : Int32) : -2147483648 ≤ a.toInt ∧ a.toInt < 2147483648 := ⟨Int32.le_toInt a, Int32.toInt_lt a⟩
theorem t_add {a b : Int32} (h1 : -2147483648 ≤ a.toInt + b.toInt) (h2 : a.toInt + b.toInt < 2147483648) : (a + b).toInt = a.toInt + b.toInt := by
  rw [Int32.toInt_add]
  exact Int.bmod_eq_of_le (by omega) (by omega)
theorem t_sub {a b : Int32} (h1 : -2147483648 ≤ a.toInt - b.toInt) (h2 : a.toInt - b.toInt < 2147483648) : (a - b).toInt = a.toInt - b.toInt := by
  rw [Int32.toInt_sub]
  exact Int.bmod_eq_of_le (by omega) (by omega)
theorem t_mul {a b : Int32} (h1 : -2147483648 ≤ a.toInt * b.toInt) (h2 : a.toInt * b.toInt < 2147483648) : (a * b).toInt = a.toInt * b.toInt := by
  rw [Int32.toInt_mul]
  exact Int.bmod_eq_of_le (by omega) (by omega)
theorem t_n (a : Int32) : a.toNatClampNeg = a.toInt.toNat := rfl
theorem t_nI {n : Nat} (h : n < 2147483648) : (nI n).toInt = (n : Int) := nI_toInt h
theorem t_0 : (0 : Int32).toInt = 0 := rfl
theorem t_1 : (1 : Int32).toInt = 1 := rfl
theorem t_2 : (2 : Int32).toInt = 2 := rfl
theorem t_3 : (3 : Int32).toInt = 3 := rfl
theorem t_5 : (5 : Int32).toInt = 5 := rfl
theorem t_6 : (6 : Int32).toInt = 6 := rfl
theorem t_7 : (7 : Int32).toInt = 7 := rfl
theorem t_8 : (8 : Int32).toInt = 8 := rfl
theorem t_10 : (10 : Int32).toInt = 10 := rfl
theorem t_40 : (40 : Int32).toInt = 40 := rfl
theorem t_60 : (60 : Int32).toInt = 60 := rfl
theorem t_m1 : (-1 : Int32).toInt = -1 := rfl
theorem gi_ok {C : Type} {i : Int32} {n : Nat} {x : Option C} (h0 : 0 ≤ i.toInt) (h1 : i.toInt < n) : gi i n x = x := if_pos ⟨h0, h1⟩
theorem gz_ok {C : Type} {d : Int32} {x : Option C} (h : d ≠ 0) : gz d x = x := if_neg h
theorem gb_0 {C : Type} {x : Option C} : gb 0 x = x := if_pos (Or.inl rfl)
theorem gb_1 {C : Type} {x : Option C} : gb 1 x = x := if_pos (Or.inr rfl)
theorem gb_if {C : Type} {p : Prop} [Decidable p] {x : Option C} : gb (if p then 1 else 0) x = x := by
  split
  · exact gb_1
  · exact gb_0
theorem ob1_k {A C : Type} {a : A} {k : A → Option C} : ob1 (some a) k = k a := rfl
theorem ob2_k {A B C : Type} {a : A} {b : B} {k : A → B → Option C} : ob2 (some (a, b)) k = k a b := rfl
theorem n_0 : (0 : Int32).toNatClampNeg = 0 := rfl
theorem n_1 : (1 : Int32).toNatClampNeg = 1 := rfl
/-! parts, mouths, ways -/
theorem x_hasPart (N : Nat) (p v : Int32) : f0_hasPart N p v = some (if 0 ≤ p.toInt ∧ p.toInt < v.toInt ∧ p.toInt < 7 then 1 else 0) := by
  unfold f0_hasPart
  simp only [t_lt, t_le, t_0, t_7]
  repeat' split
  all_goals first | rfl | (exfalso; omega)
theorem m_in (N : Nat) (v a b : Int32) : f9_in N v a b = some (if a.toInt ≤ v.toInt ∧ v.toInt ≤ b.toInt then 1 else 0) := by
  unfold f9_in
  simp only [t_lt]
  repeat' split
  all_goals first | rfl | (exfalso; omega)
theorem m_isPart (N : Nat) (p : Int32) (a : Nat → Int32) (P : Nat) (hP : P ≤ 7) (ha : a 0 = nI P) : f9_isPart N p a = some (if 0 ≤ p.toInt ∧ p.toInt < P then 1 else 0) := by
  unfold f9_isPart
  rw [gi_ok (by decide) (by decide), n_0, ha, m_in, ob1_k, gb_if]
  have e : (nI P - 1).toInt = (P : Int) - 1 := by
    rw [t_sub (by rw [t_nI (by omega), t_1]; omega) (by rw [t_nI (by omega), t_1]; omega), t_nI (by omega), t_1]
  rw [e, t_0]
  congr 1
  repeat' split
  all_goals first | rfl | (exfalso; omega)
