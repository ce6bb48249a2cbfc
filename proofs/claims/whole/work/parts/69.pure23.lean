/-! bits of longs -/
theorem sa_l : ∀ s, s < 64 → (((nI s).toInt64 &&& (63 : Int64)).toBitVec.smod 64).toNat = s := by decide +kernel
theorem sa_u : ∀ s, s < 64 → (((nI s).toInt64.toUInt64 &&& Int64.toUInt64 63).toBitVec % 64).toNat = s := by decide +kernel
theorem shl_bv (x : Int64) {s : Nat} (hs : s < 64) : (x <<< ((nI s).toInt64 &&& (63 : Int64))).toBitVec = x.toBitVec <<< s := by
  have h : (x <<< ((nI s).toInt64 &&& (63 : Int64))).toBitVec = x.toBitVec <<< ((((nI s).toInt64 &&& (63 : Int64)).toBitVec.smod 64).toNat) := rfl
  rw [h, sa_l s hs]
theorem sshr_bv (x : Int64) {s : Nat} (hs : s < 64) : (x >>> ((nI s).toInt64 &&& (63 : Int64))).toBitVec = x.toBitVec.sshiftRight s := by
  have h : (x >>> ((nI s).toInt64 &&& (63 : Int64))).toBitVec = x.toBitVec.sshiftRight ((((nI s).toInt64 &&& (63 : Int64)).toBitVec.smod 64).toNat) := rfl
  rw [h, sa_l s hs]
theorem ushr_bv (x : Int64) {s : Nat} (hs : s < 64) : ((x.toUInt64 >>> ((nI s).toInt64.toUInt64 &&& Int64.toUInt64 63)).toInt64).toBitVec = x.toBitVec >>> s := by
  have h : ((x.toUInt64 >>> ((nI s).toInt64.toUInt64 &&& Int64.toUInt64 63)).toInt64).toBitVec = x.toBitVec >>> ((((nI s).toInt64.toUInt64 &&& Int64.toUInt64 63).toBitVec % 64).toNat) := rfl
  rw [h, sa_u s hs]
theorem lc0 (x y : Int64) : lg_cmp x y = 0 ↔ x = y := by
  unfold lg_cmp
  by_cases h : x = y
  · subst h
    have c : ¬ x > x := fun q => by
      have := Int64.lt_iff_toInt_lt.mp q
      omega
    rw [if_neg c, if_pos rfl]
    exact ⟨fun _ => rfl, fun _ => rfl⟩
  · rw [if_neg h]
    constructor
    · intro q
      split at q
      · exact absurd q (by decide)
      · exact absurd q (by decide)
    · exact fun q => absurd q h
theorem b1t : ∀ i, i < 64 → (1#64).getLsbD i = decide (i = 0) := by decide
theorem and1 (y : Int64) : y &&& (1 : Int64) = 1 ↔ y.toBitVec.getLsbD 0 = true := by
  have e : y &&& (1 : Int64) = 1 ↔ y.toBitVec &&& 1#64 = 1#64 := by
    rw [← Int64.toBitVec_inj, Int64.toBitVec_and]
    exact Iff.rfl
  rw [e]
  constructor
  · intro h
    have g := congrArg (fun z : BitVec 64 => z.getLsbD 0) h
    simp only [BitVec.getLsbD_and] at g
    rw [b1t 0 (by omega)] at g
    simpa using g
  · intro h
    apply BitVec.eq_of_getLsbD_eq
    intro i hi
    rw [BitVec.getLsbD_and, b1t i hi]
    by_cases c : i = 0
    · subst c
      rw [h]
      rfl
    · simp [c]
def tbF (f : Nat → Int64) (t : Nat) : Bool := (f (t / 64)).toBitVec.getLsbD (t % 64)
theorem bit_u (x : Int64) {s : Nat} (hs : s < 64) : lg_cmp (((x.toUInt64 >>> ((nI s).toInt64.toUInt64 &&& Int64.toUInt64 63)).toInt64) &&& (1 : Int64)) (1 : Int64) = 0 ↔ x.toBitVec.getLsbD s = true := by
  rw [lc0, and1, ushr_bv x hs, BitVec.getLsbD_ushiftRight, Nat.add_zero]
theorem bit_s (x : Int64) {s : Nat} (hs : s < 64) : lg_cmp ((x >>> ((nI s).toInt64 &&& (63 : Int64))) &&& (1 : Int64)) (1 : Int64) = 0 ↔ x.toBitVec.getLsbD s = true := by
  rw [lc0, and1, sshr_bv x hs, BitVec.getLsbD_sshiftRight]
  simp [hs]
/-- a word of a row that is shifted by c bits -/
def shW (f : Nat → Int64) (c w : Nat) : Int64 :=
  if c % 64 = 0 ∨ w ≤ c / 64 then (if w < c / 64 then 0 else f (w - c / 64) <<< ((nI (c % 64)).toInt64 &&& (63 : Int64)))
  else f (w - c / 64) <<< ((nI (c % 64)).toInt64 &&& (63 : Int64)) ||| (((f (w - c / 64 - 1)).toUInt64 >>> ((nI (64 - c % 64)).toInt64.toUInt64 &&& Int64.toUInt64 63)).toInt64)
theorem z_bit (b : Nat) : (0 : Int64).toBitVec.getLsbD b = false := by
  show (0#64).getLsbD b = false
  simp
theorem or_bit (x y : Int64) (b : Nat) : (x ||| y).toBitVec.getLsbD b = (x.toBitVec.getLsbD b || y.toBitVec.getLsbD b) := by
  rw [Int64.toBitVec_or, BitVec.getLsbD_or]
theorem shl_bit (x : Int64) {s b : Nat} (hs : s < 64) (hb : b < 64) : (x <<< ((nI s).toInt64 &&& (63 : Int64))).toBitVec.getLsbD b = (!decide (b < s) && x.toBitVec.getLsbD (b - s)) := by
  rw [shl_bv x hs, BitVec.getLsbD_shiftLeft]
  simp [hb]
theorem ushr_bit (x : Int64) {s : Nat} (b : Nat) (hs : s < 64) : ((x.toUInt64 >>> ((nI s).toInt64.toUInt64 &&& Int64.toUInt64 63)).toInt64).toBitVec.getLsbD b = x.toBitVec.getLsbD (s + b) := by
  rw [ushr_bv x hs, BitVec.getLsbD_ushiftRight]
theorem hi_bit (x : Int64) {b : Nat} (hb : 64 ≤ b) : x.toBitVec.getLsbD b = false := BitVec.getLsbD_of_ge _ _ hb
theorem tbF_at (f : Nat → Int64) {w b : Nat} (hb : b < 64) : tbF f (64 * w + b) = (f w).toBitVec.getLsbD b := by
  unfold tbF
  rw [show (64 * w + b) / 64 = w by omega, show (64 * w + b) % 64 = b by omega]
theorem shW_bit (f : Nat → Int64) {c w b : Nat} (hb : b < 64) : (shW f c w).toBitVec.getLsbD b = (decide (c ≤ 64 * w + b) && tbF f (64 * w + b - c)) := by
  have hc : c = 64 * (c / 64) + c % 64 := by omega
  have hm : c % 64 < 64 := Nat.mod_lt _ (by omega)
  unfold shW
  by_cases h : c % 64 = 0 ∨ w ≤ c / 64
  · rw [if_pos h]
    by_cases h1 : w < c / 64
    · rw [if_pos h1, z_bit, decide_eq_false (by omega)]
      rfl
    · rw [if_neg h1, shl_bit _ hm hb]
      by_cases h2 : b < c % 64
      · have e : w = c / 64 := by omega
        rw [decide_eq_true h2, decide_eq_false (show ¬ c ≤ 64 * w + b by omega)]
        rfl
      · rw [decide_eq_false h2, decide_eq_true (show c ≤ 64 * w + b by omega), show 64 * w + b - c = 64 * (w - c / 64) + (b - c % 64) by omega, tbF_at f (by omega)]
        rfl
  · rw [if_neg h, or_bit, shl_bit _ hm hb, ushr_bit _ b (by omega), decide_eq_true (show c ≤ 64 * w + b by omega)]
    by_cases h2 : b < c % 64
    · rw [decide_eq_true h2, show 64 * w + b - c = 64 * (w - c / 64 - 1) + (64 - c % 64 + b) by omega, tbF_at f (by omega)]
      rfl
    · rw [decide_eq_false h2, hi_bit _ (show 64 ≤ 64 - c % 64 + b by omega), show 64 * w + b - c = 64 * (w - c / 64) + (b - c % 64) by omega, tbF_at f (by omega), Bool.or_false]
      rfl
/-- the times that a stay can take: by its days and its first part -/
def exT (P : Nat) (ρ : Nat → Nat) (w : Nat → Int32) (to : Nat) : Nat → Nat → Nat → Prop
  | 0, _, _ => False
  | 1, p, t => p = to ∧ t = ρ p
  | d + 2, p, t => ρ p ≤ t ∧ ∃ q, q < P ∧ spS (w p) p q ∧ exT P ρ w to (d + 1) q (t - ρ p)
def rhoN (r : Nat → Int32) (p : Nat) : Nat := (r p).toInt.toNat
theorem rhoN_at {P : Nat} {r : Nat → Int32} (hr : spH P r) {p : Nat} (hp : p < P) : 10 ≤ rhoN r p ∧ rhoN r p ≤ 540 ∧ r p = nI (rhoN r p) ∧ (r p).toInt = (rhoN r p : Int) := by
  obtain ⟨c, c1, c2, c3⟩ := hr.2 p hp
  have e : rhoN r p = c := by
    unfold rhoN
    rw [c3, t_nI (by omega)]
    omega
  rw [e]
  exact ⟨c1, c2, c3, by rw [c3, t_nI (by omega)]⟩
theorem row_ix (d p : Nat) : nI d * (7 : Int32) + nI p = nI (7 * d + p) := by
  rw [l_7, pk_mul, nI_add, Nat.mul_comm]
theorem l_64 : (64 : Int32) = nI 64 := rfl
theorem l_94 : (94 : Int32) = nI 94 := rfl
theorem div64 {c : Nat} (h : c < 2147483648) : nI c / (64 : Int32) = nI (c / 64) := by
  rw [l_64, pk_div h (by omega) (by omega)]
theorem rem64 {c : Nat} (h : c < 2147483648) : nI c - nI c / (64 : Int32) * (64 : Int32) = nI (c % 64) := by
  rw [l_64, pk_rem h (by omega) (by omega)]
theorem ex_row (N : Nat) {d p : Nat} (h1 : 1 ≤ d) (hd : d ≤ 40) (hp : p < 7) : f1_isRow N (nI d) (nI p) = some 1 := by
  unfold f1_isRow
  rw [if_neg (by rw [t_lt, t_nI (by omega), t_1]; omega), if_neg (by rw [t_lt, t_nI (by omega), t_40]; omega), if_neg (by rw [t_lt, t_nI (by omega), t_0]; omega), if_neg (by rw [t_le, t_nI (by omega), t_7]; omega)]
/-- the class's rows up to day D, in their first W words -/
def xA (D W : Nat) (P : Nat) (E : Nat → Nat → Nat → Prop) (tm : Nat → Nat → Int64) : Prop := ∀ d p t, 1 ≤ d → d ≤ D → p < P → t < 64 * W → (tbF (tm (7 * d + p)) t = true ↔ E d p t)
theorem ex_can (N : Nat) {d p : Nat} (h1 : 1 ≤ d) (hd : d ≤ 40) (hp : p < 7) {t : Nat} (ht : t ≤ 6000) (tm : Nat → Nat → Int64) : f1_canMake N (nI d) (nI p) (nI t) tm = some (if tbF (tm (7 * d + p)) t = true then 1 else 0) := by
  have t6 : (6000 : Int32).toInt = 6000 := rfl
  unfold f1_canMake
  rw [ex_row N h1 hd hp, ob1_k, if_neg (by decide), if_neg (by rw [t_lt, t_nI (by omega), t_0]; omega), if_pos (by rw [t_le, t_nI (by omega), t6]; omega), row_ix, rem64 (by omega), div64 (by omega), x_gi (by omega) (by omega), x_gi (by omega) (by omega), cl_nI (by omega), cl_nI (by omega)]
  unfold tbF
  by_cases c : (tm (7 * d + p) (t / 64)).toBitVec.getLsbD (t % 64) = true
  · rw [if_pos ((bit_u _ (Nat.mod_lt _ (by omega))).mpr c), if_pos c]
  · rw [if_neg (fun h => c ((bit_u _ (Nat.mod_lt _ (by omega))).mp h)), if_neg c]
theorem ex_canNeg (N : Nat) {d p : Nat} (h1 : 1 ≤ d) (hd : d ≤ 40) (hp : p < 7) {T : Int32} (hT : T.toInt < 0) (tm : Nat → Nat → Int64) : f1_canMake N (nI d) (nI p) T tm = some 0 := by
  unfold f1_canMake
  rw [ex_row N h1 hd hp, ob1_k, if_neg (by decide), if_pos (by rw [t_lt, t_0]; omega)]
