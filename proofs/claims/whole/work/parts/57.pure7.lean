/-! BY DRAWS -/
theorem and31 (x : Nat) : lN x &&& (2147483647 : Int64) = lN (x % 2147483648) := by
  apply Int64.toBitVec_inj.mp
  rw [Int64.toBitVec_and]
  apply BitVec.eq_of_toNat_eq
  rw [BitVec.toNat_and]
  show (BitVec.ofNat 64 x).toNat &&& (2147483647#64).toNat = (BitVec.ofNat 64 (x % 2147483648)).toNat
  simp only [BitVec.toNat_ofNat]
  rw [show (2147483647 % 2 ^ 64 : Nat) = 2 ^ 31 - 1 from rfl, Nat.and_two_pow_sub_one_eq_mod]
  omega
def dr (a : Nat) : Nat := (a * 1103515245 + 12345) % 2147483648
theorem dr_lt (a : Nat) : dr a < 2147483648 := Nat.mod_lt _ (by omega)
theorem seed_N {a : Nat} (ha : a < 2147483648) : ((nI a).toInt64 * (1103515245 : Int64)) + (12345 : Int64) = lN (a * 1103515245 + 12345) := by
  rw [nI_l (by omega), show (1103515245 : Int64) = lN 1103515245 from rfl, show (12345 : Int64) = lN 12345 from rfl, lN_mul, lN_add]
theorem x_draw (N : Nat) {n a : Nat} (hn : 0 < n) (hn2 : n < 1000) (ha : a < 2147483648) : f2_nextDraw N (nI n) (nI a) = some (nI (dr a / 65536 % n), nI (dr a)) := by
  unfold f2_nextDraw
  have hd := dr_lt a
  rw [if_neg (nI_nle hn (by omega)), seed_N ha, and31, lN_i, gz_ok (nI_ne0 hn (by omega)), show (65536 : Int32) = nI 65536 from rfl]
  show some (nI (dr a) / nI 65536 - nI (dr a) / nI 65536 / nI n * nI n, nI (dr a)) = _
  rw [pk_div (by omega) (by omega) (by omega), pk_rem (by omega) hn (by omega)]
theorem m_draw (N : Nat) {n a : Nat} (hn : 0 < n) (hn2 : n < 1000) (ha : a < 2147483648) : f9_draw N (nI n) (nI a) = some (nI (dr a / 65536 % n), nI (dr a)) := by
  unfold f9_draw
  have hd := dr_lt a
  have hb : a * 1103515245 + 12345 < 2 ^ 63 := by omega
  rw [seed_N ha, show (2147483648 : Int64) = lN 2147483648 from rfl, pk_lRem hb (by omega) (by omega), lN_i, gz_ok (nI_ne0 hn (by omega)), show (65536 : Int32) = nI 65536 from rfl]
  show some (nI (dr a) / nI 65536 - nI (dr a) / nI 65536 / nI n * nI n, nI (dr a)) = _
  rw [pk_div (by omega) (by omega) (by omega), pk_rem (by omega) hn (by omega)]
theorem l_9 : (9 : Int32) = nI 9 := rfl
theorem ob5_k {A B C D E F : Type} {a : A} {b : B} {c : C} {d : D} {e : E} {k : A → B → C → D → E → Option F} : ob5 (some (a, b, c, d, e)) k = k a b c d e := rfl
theorem draw_ex (N : Nat) {n a : Nat} (hn : 0 < n) (hn2 : n < 1000) (ha : a < 2147483648) : ∃ r s : Nat, r < n ∧ s < 2147483648 ∧ f2_nextDraw N (nI n) (nI a) = some (nI r, nI s) ∧ f9_draw N (nI n) (nI a) = some (nI r, nI s) :=
  ⟨dr a / 65536 % n, dr a, Nat.mod_lt _ hn, dr_lt a, x_draw N hn hn2 ha, m_draw N hn hn2 ha⟩
/-- the end of one round BY DRAWS: a draw of 60 TICKS PASS -/
theorem drift_tail (N : Nat) (hN : 200000 ≤ N) {Q : Nat} {per : Nat → Int32} (hQ : Q ≤ 6) (hq0 : per 0 = nI Q) {i : Nat} {di : Int32} {it : Nat → Int32} (hi : RIn i di it) {d s : Nat} (hd : d + 59 ≤ 9999999) (hs : s < 2147483648) {ag ri ou now : Nat → Int32} (hf : RFo Q (nI d) ag ri ou 0 now) :
    ∃ (e s' : Nat) (r : Int32) (ag' ri' ou' now' : Nat → Int32), e ≤ d + 59 ∧ s' < 2147483648 ∧ f2_nextDraw N 60 (nI s) = some (r, nI s') ∧ f9_draw N 60 (nI s) = some (r, nI s') ∧ f2_letPass N r (nI d) ag ri ou (nI Q) di = some (nI e, ag', ri', ou') ∧ f9_passBy N r per it now = some now' ∧ RFo Q (nI e) ag' ri' ou' 0 now' ∧ ∀ k, 19 ≤ k → now' k = now k := by
  obtain ⟨r, s', h1, h2, h3, h4⟩ := draw_ex N (n := 60) (by omega) (by omega) hs
  obtain ⟨ag', ri', ou', now', u1, u2, u3, u4⟩ := r_pass N hN ⟨hQ, rfl, hq0⟩ hi (d := d) (p := r) (by omega) hf
  exact ⟨d + r, s', nI r, ag', ri', ou', now', by omega, h2, h3, h4, u1, u2, u3, u4⟩
