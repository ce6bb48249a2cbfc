/-! feed -/
theorem b255 : ∀ i, i < 64 → (255#64).getLsbD i = decide (i < 8) := by decide
theorem sh_eq (x : BitVec 64) {s : Nat} (hs : s ≤ 56) : (x.sshiftRight s) &&& 255#64 = (x >>> s) &&& 255#64 := by
  apply BitVec.eq_of_getLsbD_eq
  intro i hi
  rw [BitVec.getLsbD_and, BitVec.getLsbD_and, b255 i hi]
  by_cases c : i < 8
  · rw [BitVec.getLsbD_sshiftRight, BitVec.getLsbD_ushiftRight]
    simp [c, show s + i < 64 by omega, show ¬ 64 ≤ i by omega]
  · simp [c]

theorem fb_sh (x : Int64) (m : Nat) (hm : m < 8) : ((x.toUInt64 >>> (((8 : Int32) * nI m).toInt64.toUInt64 &&& Int64.toUInt64 63)).toInt64) &&& (255 : Int64) = (x >>> (((8 : Int32) * nI m).toInt64 &&& 63)) &&& (255 : Int64) := by
  have k : ((x.toBitVec.sshiftRight (8 * m)) &&& 255#64) = ((x.toBitVec >>> (8 * m)) &&& 255#64) := sh_eq x.toBitVec (by omega)
  apply Int64.toBitVec_inj.mp
  rcases (show m = 0 ∨ m = 1 ∨ m = 2 ∨ m = 3 ∨ m = 4 ∨ m = 5 ∨ m = 6 ∨ m = 7 by omega) with rfl | rfl | rfl | rfl | rfl | rfl | rfl | rfl <;> exact k.symm
theorem fb_lo (c : Int64) : ∃ k, k < 256 ∧ c &&& (255 : Int64) = Int64.ofNat k := by
  refine ⟨(c.toBitVec &&& 255#64).toNat, ?_, ?_⟩
  · rw [BitVec.toNat_and]
    exact Nat.lt_of_le_of_lt Nat.and_le_right (by decide)
  · apply Int64.toBitVec_inj.mp
    show c.toBitVec &&& 255#64 = BitVec.ofNat 64 (c.toBitVec &&& 255#64).toNat
    rw [BitVec.ofNat_toNat, BitVec.setWidth_eq]
theorem fb_val : ∀ k, k < 256 → (vp_nar .char (((Int64.ofNat k).toInt32).toUInt32 % 65536).toInt32) = (vp_nar .byte ((Int64.ofNat k).toInt32).toInt8.toInt32) &&& 255 := by decide +kernel
theorem fb (x : Int64) (m : Nat) (hm : m < 8) : (vp_nar .char ((((((x.toUInt64 >>> (((8 : Int32) * nI m).toInt64.toUInt64 &&& Int64.toUInt64 63)).toInt64) &&& (255 : Int64)).toInt32).toUInt32 % 65536).toInt32)) = (vp_nar .byte ((((x >>> (((8 : Int32) * nI m).toInt64 &&& 63)) &&& (255 : Int64)).toInt32).toInt8.toInt32)) &&& 255 := by
  rw [fb_sh x m hm]
  obtain ⟨k, hk, e⟩ := fb_lo (x >>> (((8 : Int32) * nI m).toInt64 &&& 63))
  rw [e]
  exact fb_val k hk
theorem fd_ix : ∀ m, m < 9 → nI (m + 1) + (-1 : Int32) = nI m := by decide
theorem fd_ng : ∀ m, m < 9 → ¬ nI m < (0 : Int32) := by decide
theorem fd_loop (N : Nat) (p2 : Int64) : ∀ (m n a : Nat) (tx mx : Nat → Int32), m < n → m ≤ 8 → a + m ≤ 500 → (∀ j, j < a → tx j = mx j &&& 255) →
    ∃ tx' mx', f8_feed_L41 N p2 n (nI m + (-1 : Int32)) (nI a) tx = some (nI (a + m), tx') ∧ f9_feed_L33 N p2 n (nI m + (-1 : Int32)) (nI a) mx = some (nI (a + m), mx') ∧ (∀ j, j < a + m → tx' j = mx' j &&& 255) := by
  intro m
  induction m with
  | zero =>
    intro n a tx mx hn _ _ hc
    obtain ⟨n, rfl⟩ : ∃ n', n = n' + 1 := ⟨n - 1, by omega⟩
    refine ⟨tx, mx, ?_, ?_, hc⟩
    · rw [f8_feed_L41, if_pos (by decide)]
      rfl
    · rw [f9_feed_L33, if_pos (by decide)]
      rfl
  | succ m ih =>
    intro n a tx mx hn hm ha hc
    obtain ⟨n, rfl⟩ : ∃ n', n = n' + 1 := ⟨n - 1, by omega⟩
    rw [fd_ix m (by omega), f8_feed_L41, f9_feed_L33, if_neg (fd_ng m (by omega)), if_neg (fd_ng m (by omega)), x_gi (by omega) (by omega), x_gi (by omega) (by omega), cl_nI (by omega), nI_1, show a + (m + 1) = a + 1 + m by omega]
    exact ih n (a + 1) _ _ (by omega) (by omega) (by omega) (fun j hj => by
      by_cases c : j = a
      · subst c
        rw [up_s (α := Nat), up_s (α := Nat)]
        exact fb p2 m (by omega)
      · rw [up_n c, up_n c]
        exact hc j (by omega))
theorem q_feed (N : Nat) (hN : 200000 ≤ N) (p1 : Int32) (p2 : Int64) {k : Nat} (hk : k ≤ 500) {tx mx : Nat → Int32} (hc : ∀ j, j < k → tx j = mx j &&& 255) :
    ∃ r k' tx' mx', k' ≤ 500 ∧ f8_feed N p1 p2 (nI k) tx = some (r, nI k', tx') ∧ f9_feed N p1 p2 (nI k) mx = some (r, nI k', mx') ∧ (∀ j, j < k' → tx' j = mx' j &&& 255) := by
  have n1 : (1 : Int32).toInt = 1 := rfl
  have n8 : (8 : Int32).toInt = 8 := rfl
  have n500 : (500 : Int32).toInt = 500 := rfl
  unfold f8_feed f9_feed
  rw [m_in, ob1_k]
  by_cases a1 : p1 < (1 : Int32)
  · have b := (t_lt _ _).mp a1
    exact ⟨_, k, tx, mx, hk, by rw [if_pos a1], by rw [if_neg (show ¬ ((1 : Int32).toInt ≤ p1.toInt ∧ p1.toInt ≤ (8 : Int32).toInt) by omega), if_pos rfl], hc⟩
  · by_cases a2 : p1 ≤ (8 : Int32)
    · have b1 : ¬ p1.toInt < (1 : Int32).toInt := fun h => a1 ((t_lt _ _).mpr h)
      have b2 := (t_le _ _).mp a2
      obtain ⟨m, hm, rfl⟩ := nI_nat2 (x := p1) (M := 8) (by omega) (by omega)
      rw [t_nI (by omega)] at b1 b2
      rw [if_neg a1, if_pos a2, if_neg (show ¬ nI k < (0 : Int32) by rw [t_lt, t_nI (by omega)]; exact fun h => by have : (0 : Int32).toInt = 0 := rfl; omega), if_pos (show (1 : Int32).toInt ≤ (nI m).toInt ∧ (nI m).toInt ≤ (8 : Int32).toInt by rw [t_nI (by omega)]; omega), if_neg (show ¬ (1 : Int32) = 0 by decide)]
      have es : nI k + nI m = nI (k + m) := by rw [nI_add]
      rw [es]
      by_cases a3 : nI (k + m) ≤ (500 : Int32)
      · have b3 := (t_le _ _).mp a3
        rw [t_nI (by omega)] at b3
        obtain ⟨tx', mx', e1, e2, hc'⟩ := fd_loop N p2 m N k tx mx (by omega) (by omega) (by omega) hc
        have ei : nI m - (1 : Int32) = nI m + (-1 : Int32) := by rw [Int32.sub_eq_add_neg]
        rw [if_pos a3, if_pos a3, ei, e1, e2, ob2_k, ob2_k]
        exact ⟨_, k + m, tx', mx', by omega, rfl, rfl, hc'⟩
      · rw [if_neg a3, if_neg a3]
        exact ⟨_, k, tx, mx, hk, rfl, rfl, hc⟩
    · have b2 : ¬ p1.toInt ≤ (8 : Int32).toInt := fun h => a2 ((t_le _ _).mpr h)
      exact ⟨_, k, tx, mx, hk, by rw [if_neg a1, if_neg a2], by rw [if_neg (show ¬ ((1 : Int32).toInt ≤ p1.toInt ∧ p1.toInt ≤ (8 : Int32).toInt) by omega), if_pos rfl], hc⟩
