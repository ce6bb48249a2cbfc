/-! feed -/
theorem b255 : ∀ i, i < 64 → (255#64).getLsbD i = decide (i < 8) := by decide
theorem sh_eq (x : BitVec 64) {s : Nat} (hs : s ≤ 56) : (x.sshiftRight s) &&& 255#64 = (x >>> s) &&& 255#64 := by
  apply BitVec.eq_of_getLsbD_eq
  intro i hi
  rw [BitVec.getLsbD_and, BitVec.getLsbD_and, b255 i hi]
  by_cases c : i < 8
  · rw [BitVec.getLsbD_sshiftRight, BitVec.getLsbD_ushiftRight]
    simp [c, show s + i < 64 by omega, show ¬ 64 ≤ i by omega]
  · simp [c]

theorem fb_sh (x : Int64) (m : Nat) (hm : m < 8) : ((x.toUInt64 >>> (((8 : Int32) * nI m).toInt64.toUInt64 &&& Int64.toUInt64 63)).toInt64) &&& (255 : Int64) = (x >>> (((8 : Int32) * nI m).toInt64 &&& 63)) &&& (255 : Int64) := by
  have k : ((x.toBitVec.sshiftRight (8 * m)) &&& 255#64) = ((x.toBitVec >>> (8 * m)) &&& 255#64) := sh_eq x.toBitVec (by omega)
  apply Int64.toBitVec_inj.mp
  rcases (show m = 0 ∨ m = 1 ∨ m = 2 ∨ m = 3 ∨ m = 4 ∨ m = 5 ∨ m = 6 ∨ m = 7 by omega) with rfl | rfl | rfl | rfl | rfl | rfl | rfl | rfl <;> exact k.symm
theorem fb_lo (c : Int64) : ∃ k, k < 256 ∧ c &&& (255 : Int64) = Int64.ofNat k := by
  refine ⟨(c.toBitVec &&& 255#64).toNat, ?_, ?_⟩
  · rw [BitVec.toNat_and]
    exact Nat.lt_of_le_of_lt Nat.and_le_right (by decide)
  · apply Int64.toBitVec_inj.mp
    show c.toBitVec &&& 255#64 = BitVec.ofNat 64 (c.toBitVec &&& 255#64).toNat
    rw [BitVec.ofNat_toNat, BitVec.setWidth_eq]
theorem fb_val : ∀ k, k < 256 → (vp_nar .char (((Int64.ofNat k).toInt32).toUInt32 % 65536).toInt32) = (vp_nar .byte ((Int64.ofNat k).toInt32).toInt8.toInt32) &&& 255 := by decide +kernel
theorem fb (x : Int64) (m : Nat) (hm : m < 8) : (vp_nar .char ((((((x.toUInt64 >>> (((8 : Int32) * nI m).toInt64.toUInt64 &&& Int64.toUInt64 63)).toInt64) &&& (255 : Int64)).toInt32).toUInt32 % 65536).toInt32)) = (vp_nar .byte ((((x >>> (((8 : Int32) * nI m).toInt64 &&& 63)) &&& (255 : Int64)).toInt32).toInt8.toInt32)) &&& 255 := by
  rw [fb_sh x m hm]
  obtain ⟨k, hk, e⟩ := fb_lo (x >>> (((8 : Int32) * nI m).toInt64 &&& 63))
  rw [e]
  exact fb_val k hk
