/-! sums at interest -/
def gr (i a : Nat) : Nat := min 999999999 (a + a * i / 100)
def gri (i : Nat) : Nat → Nat → Nat
  | 0, a => a
  | k + 1, a => gri i k (gr i a)
theorem gr_le (i a : Nat) : gr i a ≤ 999999999 := Nat.min_le_left _ _
theorem gri_fix {i a : Nat} (h : gr i a = a) : ∀ k, gri i k a = a
  | 0 => rfl
  | k + 1 => by rw [gri, h, gri_fix h k]
theorem gri_le {i : Nat} : ∀ (k : Nat) {a : Nat}, a ≤ 999999999 → gri i k a ≤ 999999999
  | 0, _, h => h
  | k + 1, _, _ => gri_le k (gr_le i _)
theorem gri_succ (i : Nat) : ∀ (k a : Nat), gri i (k + 1) a = gr i (gri i k a)
  | 0, _ => rfl
  | k + 1, a => by
    rw [gri, gri_succ i k (gr i a)]
    rfl
theorem lc_N {a b : Nat} (ha : a < 2 ^ 63) (hb : b < 2 ^ 63) : lg_cmp (lN a) (lN b) = if b < a then 1 else if a = b then 0 else -1 := by
  unfold lg_cmp
  have h1 : (lN a > lN b) ↔ b < a := pk_lLT hb ha
  have h2 : (lN a = lN b) ↔ a = b := pk_lEQ ha hb
  by_cases c : b < a
  · rw [if_pos (h1.mpr c), if_pos c]
  · rw [if_neg (fun q => c (h1.mp q)), if_neg c]
    by_cases d : a = b
    · rw [if_pos (h2.mpr d), if_pos d]
    · rw [if_neg (fun q => d (h2.mp q)), if_neg d]
theorem gain_N {a i : Nat} (ha : a ≤ 999999999) (hi : i ≤ 50) : ((nI a).toInt64 * (nI i).toInt64) / (100 : Int64) = lN (a * i / 100) := by
  have hb : a * i ≤ 999999999 * 50 := Nat.mul_le_mul ha hi
  rw [nI_l (by omega), nI_l (by omega), lN_mul, show (100 : Int64) = lN 100 from rfl, pk_lDiv (by omega) (by omega) (by omega)]
theorem gain_b {a i : Nat} (ha : a ≤ 999999999) (hi : i ≤ 50) : a * i / 100 ≤ 499999999 := by
  have hb : a * i ≤ 999999999 * 50 := Nat.mul_le_mul ha hi
  omega
theorem m_grown (N : Nat) {a i : Nat} (ha : a ≤ 999999999) (hi : i ≤ 50) (it : Nat → Int32) (h0 : it 0 = nI i) : f9_grown N (nI a) it = some (nI (gr i a)) := by
  unfold f9_grown
  have hg := gain_b ha hi
  rw [gi_ok (by decide) (by decide), n_0, h0, gain_N ha hi, nI_l (by omega), lN_add, show (999999999 : Int64) = lN 999999999 from rfl, lc_N (by omega) (by omega), lN_i]
  by_cases c : 999999999 < a + a * i / 100
  · rw [if_pos c, if_neg (by decide)]
    unfold gr
    rw [Nat.min_eq_left (by omega)]
    rfl
  · rw [if_neg c]
    unfold gr
    rw [Nat.min_eq_right (by omega)]
    by_cases d : a + a * i / 100 = 999999999
    · rw [if_pos d, if_pos (by decide)]
    · rw [if_neg d, if_pos (by decide)]
theorem x_grownL (N : Nat) {i Y : Nat} (hi : i ≤ 50) (hY : Y < 2147483648) : ∀ (n j a : Nat), a ≤ 999999999 → j ≤ Y → Y + 1 ≤ j + n → f2_grown_L6 N (nI i) (nI Y) n (lN a) (nI j) = some (nI (gri i (Y - j) a)) := by
  intro n
  induction n with
  | zero => intro j a h1 h2 h3; omega
  | succ n ih =>
    intro j a ha h2 h3
    rw [f2_grown_L6]
    by_cases hj : j = Y
    · subst hj
      rw [if_pos (nI_le (Nat.le_refl _) hY), lN_i, Nat.sub_self]
      rfl
    · have hlt : j < Y := by omega
      have hg := gain_b ha hi
      have hgN := gain_N ha hi
      rw [nI_l (show a < 2147483648 by omega)] at hgN
      rw [if_neg (nI_ge hlt hY), hgN, show (0 : Int64) = lN 0 from rfl, show (999999999 : Int64) = lN 999999999 from rfl, lc_N (by omega) (by omega), lc_N (by omega) (by omega), lN_add, nI_1, lN_i]
      by_cases c : a * i / 100 = 0
      · rw [if_pos (by rw [c]; rfl)]
        rw [gri_fix (by unfold gr; rw [c, Nat.add_zero, Nat.min_eq_right ha])]
      · rw [if_neg (by rw [if_pos (by omega)]; decide)]
        by_cases d : a = 999999999
        · rw [if_neg (by rw [if_neg (by omega), if_pos d]; decide)]
          rw [gri_fix (by unfold gr; rw [Nat.min_eq_left (by omega), d])]
        · rw [if_pos (by rw [if_neg (by omega), if_neg d]; decide)]
          have hm : (if lN (a + a * i / 100) < lN 999999999 then lN (a + a * i / 100) else lN 999999999) = lN (gr i a) := by
            unfold gr
            by_cases e : a + a * i / 100 < 999999999
            · rw [if_pos ((pk_lLT (by omega) (by omega)).mpr e), Nat.min_eq_right (by omega)]
            · rw [if_neg (fun q => e ((pk_lLT (by omega) (by omega)).mp q)), Nat.min_eq_left (by omega)]
          rw [hm, ih (j + 1) (gr i a) (gr_le i a) hlt (by omega), show Y - j = (Y - (j + 1)) + 1 by omega]
          rfl
theorem x_grown (N : Nat) {i Y a : Nat} (hi : i ≤ 50) (hY : Y + 1 ≤ N) (hY2 : Y < 2147483648) (ha : a ≤ 999999999) : f2_grown N (nI a) (nI i) (nI Y) = some (nI (gri i Y a)) := by
  unfold f2_grown
  rw [nI_l (by omega), l_0]
  have h := x_grownL N hi hY2 N 0 a ha (Nat.zero_le _) (by omega)
  exact h
def RIn (i : Nat) (di : Int32) (it : Nat → Int32) : Prop := i ≤ 50 ∧ di = nI i ∧ it 0 = nI i
theorem nI_nat2 {x : Int32} {M : Nat} (h0 : 0 ≤ x.toInt) (h1 : x.toInt ≤ M) : ∃ a, a ≤ M ∧ x = nI a := ⟨x.toInt.toNat, by omega, Int32.toInt_inj.mp (by
  have := (t_rng x).2
  rw [t_nI (by omega)]
  omega)⟩
theorem l_60 : (60 : Int32) = nI 60 := rfl
theorem q_sum (N : Nat) (hN : 200000 ≤ N) (p1 p2 : Int32) {Q : Nat} {dq : Int32} {per : Nat → Int32} (hp : RPe Q dq per) {i : Nat} {di : Int32} {it : Nat → Int32} (hi : RIn i di it) {dt : Int32} {ag ri ou now : Nat → Int32} (hf : RFo Q dt ag ri ou 0 now) :
    ∃ r : Int32, f8_sum N p1 p2 dq di dt ri = some r ∧ f9_sum N p1 p2 per it now = some r := by
  obtain ⟨hQ, rfl, hq0⟩ := hp
  obtain ⟨hi5, rfl, hi0⟩ := hi
  obtain ⟨hd0, hd1, hd2, hE⟩ := hf
  obtain ⟨d, hd, rfl⟩ := nI_nat2 (M := 9999999) hd1 hd2
  unfold f8_sum f9_sum
  rw [x_hasPerson N p1 Q hQ, m_isPerson N p1 per Q hQ hq0, gi_ok (i := 0) (by decide) (by decide), gi_ok (i := 0) (by decide) (by decide), n_0, m_in]
  simp only [ob1_k, b_z, ite_not]
  by_cases h1 : 0 ≤ p1.toInt ∧ p1.toInt < Q
  · obtain ⟨q, hq, rfl⟩ := nI_nat h1.1 h1.2
    obtain ⟨-, e2, e3, e4, -⟩ := hE q hq
    simp only [Nat.zero_add] at e2
    obtain ⟨a, ha, ea⟩ := nI_nat2 (M := 999999999) e3 e4
    rw [if_pos h1, if_pos h1]
    rw [show now 0 = nI d from hd0.symm]
    simp only [t_lt, t_le, t_nI (show d < 2147483648 by omega), show (9999999 : Int32).toInt = 9999999 from rfl]
    by_cases h2 : (d : Int) ≤ p2.toInt ∧ p2.toInt ≤ 9999999
    · obtain ⟨w, hw, rfl⟩ := nI_nat2 (M := 9999999) (by omega) h2.2
      have hw2 : d ≤ w := by rw [t_nI (by omega)] at h2; omega
      have hle : d / 60 ≤ w / 60 := Nat.div_le_div_right hw2
      rw [if_neg (by omega), if_pos h2.2, if_pos h2]
      unfold f2_richesAt f2_isPlace
      simp only [t_lt, t_le, t_0, t_6, t_nI (show q < 2147483648 by omega)]
      rw [if_neg (by omega), if_neg (by omega)]
      simp only [ob1_k]
      rw [if_neg (by decide), x_gi (by omega) (by omega), cl_nI (by omega), ea, l_60, pk_div (by omega) (by omega) (by omega), pk_div (by omega) (by omega) (by omega), pk_sub hle, x_grown N hi5 (by omega) (by omega) ha, l_7, m_gi (by omega) (by omega), m_cl (by omega), ← e2, ea]
      have L : ∀ (n j b : Nat), b ≤ 999999999 → j ≤ w / 60 → w / 60 + 1 ≤ j + n → f9_sum_L50 N (nI w) it n (nI b) (nI j) = some (nI (gri i (w / 60 - j) b)) := by
        intro n
        induction n with
        | zero => intro j b h1 h2 h3; omega
        | succ n ih =>
          intro j b hb h2 h3
          rw [f9_sum_L50, l_60, pk_div (by omega) (by omega) (by omega)]
          by_cases hj : j = w / 60
          · subst hj
            rw [if_pos (nI_le (Nat.le_refl _) (by omega)), Nat.sub_self]
            rfl
          · have hlt : j < w / 60 := by omega
            rw [if_neg (nI_ge hlt (by omega)), m_grown N hb hi5 it hi0, ob1_k, nI_1, ih (j + 1) _ (gr_le i b) hlt (by omega), show w / 60 - j = (w / 60 - (j + 1)) + 1 by omega]
            rfl
      refine ⟨_, rfl, ?_⟩
      rw [L N (d / 60) a ha hle (by omega)]
      rfl
    · refine ⟨-1000000002, ?_, ?_⟩
      · by_cases h3 : p2.toInt < d
        · rw [if_pos h3]
        · rw [if_neg h3, if_neg (by omega)]
      · rw [if_neg h2]
  · exact ⟨-1000000001, by rw [if_neg h1], by rw [if_neg h1]⟩
