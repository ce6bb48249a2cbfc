/-! spans -/
theorem sp_ix (N : Nat) {d q : Nat} (hd : d ≤ 40) (hq : q < 7) : f9_index N (nI d) (nI q) = some (nI (7 * d + q)) := by
  have t7 : (7 : Int32).toInt = 7 := rfl
  have e1 : ((7 : Int32) * nI d).toInt = 7 * (d : Int) := by
    rw [t_mul (by rw [t7, t_nI (by omega)]; omega) (by rw [t7, t_nI (by omega)]; omega), t7, t_nI (by omega)]
  unfold f9_index
  congr 1
  apply Int32.toInt_inj.mp
  rw [t_add (by rw [e1, t_nI (by omega)]; omega) (by rw [e1, t_nI (by omega)]; omega), e1, t_nI (by omega), t_nI (by omega)]
  omega
theorem x_mayNot (N : Nat) {a b P : Nat} (hP : P ≤ 7) (ha : a < P) (hb : P ≤ b) (hb7 : b < 7) (dn : Nat → Int32) : f0_mayFollow N (nI a) (nI b) (nI P) dn = some 0 := by
  have ho : ¬ (0 ≤ (nI b).toInt ∧ (nI b).toInt < (P : Int)) := by
    rw [t_nI (by omega)]
    omega
  unfold f0_mayFollow f0_hasWay
  rw [x_part7 N _ P hP, if_pos (nI_in7 hP ha), x_part7 N _ P hP, if_neg ho]
  simp only [ob1_k]
  rw [if_neg (by decide), if_neg (fun e => by have := (nI_eq (by omega) (by omega)).mp e; omega), if_neg (by decide), if_pos trivial, ob1_k, if_pos rfl]
theorem sp_cell (N : Nat) {d q : Nat} (h1 : 1 ≤ d) (hd : d ≤ 40) (hq : q < 7) : f5_isCell N (nI d) (nI q) = some 1 := by
  unfold f5_isCell
  have t40 : (40 : Int32).toInt = 40 := rfl
  rw [if_neg (by rw [t_lt, t_nI (by omega), t_1]; omega), if_neg (by rw [t_lt, t_nI (by omega), t_40]; omega), if_neg (by rw [t_lt, t_nI (by omega), t_0]; omega), if_neg (by rw [t_le, t_nI (by omega), t_7]; omega)]
theorem sp_least (N : Nat) {d q : Nat} (h1 : 1 ≤ d) (hd : d ≤ 40) (hq : q < 7) (l m : Nat → Nat → Int32) : f5_leastTime N (nI d) (nI q) l m = some (l d q) := by
  unfold f5_leastTime
  rw [sp_cell N h1 hd hq, ob1_k, if_neg (by decide), x_gi (by omega) (by omega), x_gi (by omega) (by omega), cl_nI (by omega), cl_nI (by omega)]
theorem sp_most (N : Nat) {d q : Nat} (h1 : 1 ≤ d) (hd : d ≤ 40) (hq : q < 7) (l m : Nat → Nat → Int32) : f5_mostTime N (nI d) (nI q) l m = some (m d q) := by
  unfold f5_mostTime
  rw [sp_cell N h1 hd hq, ob1_k, if_neg (by decide), x_gi (by omega) (by omega), x_gi (by omega) (by omega), cl_nI (by omega), cl_nI (by omega)]
/-- rows by day and part, on both sides, up to day D -/
def sp_ag (P D : Nat) (l m : Nat → Nat → Int32) (L M : Nat → Int32) : Prop := ∀ d p, 1 ≤ d → d ≤ D → p < P → l d p = L (7 * d + p) ∧ m d p = M (7 * d + p)
theorem sp_skip (N : Nat) {P d p : Nat} (hP : P ≤ 7) (hp : p < P) (l m : Nat → Nat → Int32) (dn : Nat → Int32) : ∀ (k n q : Nat) (x y : Int32), q + k = 7 → P ≤ q ∨ d ≤ 1 → d ≤ 40 → k < n → f5_layCell_L25 N (nI d) (nI p) l m (nI P) dn n x y (nI q) = some (x, y) := by
  intro k
  induction k with
  | zero =>
    intro n q x y hq _ _ hn
    obtain ⟨n, rfl⟩ : ∃ n', n = n' + 1 := ⟨n - 1, by omega⟩
    rw [f5_layCell_L25, if_pos (by rw [t_le, t_nI (by omega), t_7]; omega)]
  | succ k ih =>
    intro n q x y hq hc hd hn
    obtain ⟨n, rfl⟩ : ∃ n', n = n' + 1 := ⟨n - 1, by omega⟩
    rw [f5_layCell_L25, if_neg (by rw [t_le, t_nI (by omega), t_7]; omega), nI_1]
    by_cases c : d ≤ 1
    · rw [if_pos (by rw [t_le, t_nI (by omega), t_1]; omega)]
      exact ih n (q + 1) x y (by omega) (Or.inr c) hd (by omega)
    · rw [if_neg (by rw [t_le, t_nI (by omega), t_1]; omega), x_mayNot N hP hp (by omega) (by omega), ob1_k, if_pos rfl]
      exact ih n (q + 1) x y (by omega) (Or.inl (by omega)) hd (by omega)
