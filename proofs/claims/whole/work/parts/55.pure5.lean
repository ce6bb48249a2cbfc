/-! TO PASS -/
theorem m_years32 (N : Nat) {Q i : Nat} (hQ : Q ≤ 6) (hi : i ≤ 50) {per it : Nat → Int32} (hq0 : per 0 = nI Q) (hi0 : it 0 = nI i) (a : Nat → Nat) (ha : ∀ q, q < Q → a q ≤ 999999999) : ∀ (n j : Nat) (now : Nat → Int32), j ≤ Q → Q + 1 ≤ j + n → (∀ q, j ≤ q → q < Q → now (7 + q) = nI (a q)) →
    ∃ now', f9_passBy_L32 N per it n (nI j) now = some now' ∧ (∀ q, j ≤ q → q < Q → now' (7 + q) = nI (gr i (a q))) ∧ (∀ k, (k < 7 + j ∨ 7 + Q ≤ k) → now' k = now k) := by
  intro n
  induction n with
  | zero => intro j now h1 h2 h3; omega
  | succ n ih =>
    intro j now h1 h2 h3
    rw [f9_passBy_L32, gi_ok (i := 0) (by decide) (by decide), n_0, hq0]
    by_cases hj : j = Q
    · subst hj
      exact ⟨now, by rw [if_pos (nI_le (Nat.le_refl _) (by omega))], fun q h4 h5 => by omega, fun _ _ => rfl⟩
    · have hlt : j < Q := by omega
      rw [if_neg (nI_ge hlt (by omega)), l_7, m_gi (by omega) (by omega), m_cl (by omega), h3 j (Nat.le_refl _) hlt, m_grown N (ha j hlt) hi it hi0]
      simp only [ob1_k]
      rw [m_gi (by omega) (by omega), nI_1]
      obtain ⟨now', e1, e2, e3⟩ := ih (j + 1) (upd now (7 + j) (nI (gr i (a j)))) hlt (by omega) (fun q h4 h5 => by rw [pk_un (by omega)]; exact h3 q (by omega) h5)
      refine ⟨now', e1, fun q h4 h5 => ?_, fun k h4 => ?_⟩
      · by_cases e : q = j
        · subst e
          rw [e3 (7 + q) (by omega), pk_us]
        · exact e2 q (by omega) h5
      · rw [e3 k (by omega), pk_un (by omega)]
theorem m_years21 (N : Nat) (hN : 10 ≤ N) {Q i : Nat} (hQ : Q ≤ 6) (hi : i ≤ 50) {per it : Nat → Int32} (hq0 : per 0 = nI Q) (hi0 : it 0 = nI i) {d p : Nat} (hd : d + p ≤ 9999999) (now0 : Nat → Int32) (h0 : now0 0 = nI d) : ∀ (n y : Nat) (a : Nat → Nat) (now : Nat → Int32), (∀ q, q < Q → a q ≤ 999999999) → y ≤ (d + p) / 60 + 1 → (d + p) / 60 + 2 ≤ y + n → (∀ q, q < Q → now (7 + q) = nI (a q)) →
    ∃ now', f9_passBy_L21 N (nI p) per it now0 n (nI y) now = some now' ∧ (∀ q, q < Q → now' (7 + q) = nI (gri i ((d + p) / 60 + 1 - y) (a q))) ∧ (∀ k, (k < 7 ∨ 7 + Q ≤ k) → now' k = now k) := by
  intro n
  induction n with
  | zero => intro y a now _ h1 h2 h3; omega
  | succ n ih =>
    intro y a now ha h1 h2 h3
    rw [f9_passBy_L21, n_0, h0, nI_add, l_60, pk_div (by omega) (by omega) (by omega)]
    by_cases hj : y = (d + p) / 60 + 1
    · subst hj
      exact ⟨now, by rw [if_pos (nI_lt (by omega) (by omega))], fun q h5 => by rw [Nat.sub_self]; exact h3 q h5, fun _ _ => rfl⟩
    · rw [if_neg (nI_nlt (by omega) (by omega))]
      obtain ⟨n1, e1, e2, e3⟩ := m_years32 N hQ hi hq0 hi0 a ha N 0 now (Nat.zero_le _) (by omega) (fun q _ h5 => h3 q h5)
      rw [l_0, e1]
      simp only [ob1_k]
      rw [nI_1]
      obtain ⟨n2, g1, g2, g3⟩ := ih (y + 1) (fun q => gr i (a q)) n1 (fun q _ => gr_le i _) (by omega) (by omega) (fun q h5 => e2 q (Nat.zero_le _) h5)
      refine ⟨n2, g1, fun q h5 => ?_, fun k h5 => ?_⟩
      · rw [g2 q h5, show (d + p) / 60 + 1 - y = ((d + p) / 60 + 1 - (y + 1)) + 1 by omega]
        rfl
      · rw [g3 k h5, e3 k (by omega)]
def aInc (then_ date o : Int32) : Int32 := if then_ ≤ (if o ≤ date then date else o) then 0 else then_ - (if o ≤ date then date else o)
theorem m_ages81 (N : Nat) {Q : Nat} (hQ : Q ≤ 6) {per : Nat → Int32} (hq0 : per 0 = nI Q) (p : Int32) (now0 : Nat → Int32) : ∀ (n j : Nat) (now : Nat → Int32), j ≤ Q → Q + 1 ≤ j + n →
    ∃ now', f9_passBy_L81 N p per now0 n (nI j) now = some now' ∧ (∀ q, j ≤ q → q < Q → now' (1 + q) = now (1 + q) + aInc (now0 0 + p) (now 0) (now (13 + q))) ∧ (∀ k, (k < 1 + j ∨ 1 + Q ≤ k) → now' k = now k) := by
  intro n
  induction n with
  | zero => intro j now h1 h2; omega
  | succ n ih =>
    intro j now h1 h2
    rw [f9_passBy_L81, gi_ok (i := 0) (by decide) (by decide), n_0, hq0]
    by_cases hj : j = Q
    · subst hj
      exact ⟨now, by rw [if_pos (nI_le (Nat.le_refl _) (by omega))], fun q h4 h5 => by omega, fun _ _ => rfl⟩
    · have hlt : j < Q := by omega
      have step : ∀ f : Int32, f = (if now (13 + j) ≤ now 0 then now 0 else now (13 + j)) → f9_passBy_J127 N p now0 (nI j) now (f9_passBy_L81 N p per now0 n) f = f9_passBy_L81 N p per now0 n (nI (j + 1)) (upd now (1 + j) (now (1 + j) + aInc (now0 0 + p) (now 0) (now (13 + j)))) := by
        intro f hf
        unfold f9_passBy_J127 aInc
        rw [l_1, m_gi (by omega) (by omega), m_cl (by omega), n_0, ← hf, nI_add]
        by_cases g : now0 0 + p ≤ f
        · rw [if_pos g, if_pos g, x_gi (by omega) (by omega), nI_add]
        · rw [if_neg g, if_neg g, x_gi (by omega) (by omega), nI_add]
      rw [if_neg (nI_ge hlt (by omega)), l_13, m_gi (by omega) (by omega), gi_ok (i := 0) (by decide) (by decide), m_cl (by omega)]
      have key : (if now (13 + j) ≤ now 0 then gi 0 60 (f9_passBy_J127 N p now0 (nI j) now (f9_passBy_L81 N p per now0 n) (now 0)) else gi (nI 13 + nI j) 60 (f9_passBy_J127 N p now0 (nI j) now (f9_passBy_L81 N p per now0 n) (now (13 + j)))) = f9_passBy_L81 N p per now0 n (nI (j + 1)) (upd now (1 + j) (now (1 + j) + aInc (now0 0 + p) (now 0) (now (13 + j)))) := by
        by_cases g : now (13 + j) ≤ now 0
        · rw [if_pos g, gi_ok (i := 0) (by decide) (by decide), step _ (by rw [if_pos g])]
        · rw [if_neg g, m_gi (by omega) (by omega), step _ (by rw [if_neg g])]
      rw [key]
      obtain ⟨now', e1, e2, e3⟩ := ih (j + 1) _ hlt (by omega)
      refine ⟨now', e1, fun q h4 h5 => ?_, fun k h4 => ?_⟩
      · by_cases e : q = j
        · subst e
          rw [e3 (1 + q) (by omega), pk_us]
        · rw [e2 q (by omega) h5, pk_un (by omega), pk_un (by omega), pk_un (by omega)]
      · rw [e3 k (by omega), pk_un (by omega)]
theorem x_ageAt (N : Nat) {q : Nat} (hq : q < 6) (w dt : Int32) (ag ou : Nat → Int32) : f2_ageAt N (nI q) w dt ag ou = some (ag q + (if (0 : Int32) < (w - (if dt < ou q then ou q else dt)) then (w - (if dt < ou q then ou q else dt)) else (0 : Int32))) := by
  unfold f2_ageAt f2_isPlace
  rw [if_neg (show ¬ nI q < 0 from nI_pos (by omega)), if_neg (show ¬ (6 : Int32) ≤ nI q from fun h => by rw [t_le, t_6, t_nI (by omega)] at h; omega)]
  simp only [ob1_k]
  rw [if_neg (by decide), x_gi (by omega) (by omega), x_gi (by omega) (by omega), cl_nI (by omega)]
theorem x_richesAt (N : Nat) {q : Nat} (hq : q < 6) {w d i a : Nat} (hi : i ≤ 50) (hw : w ≤ 9999999) (hd : d ≤ w) (ha : a ≤ 999999999) (hN : 200000 ≤ N) {ri : Nat → Int32} (hr : ri q = nI a) : f2_richesAt N (nI q) (nI w) (nI i) (nI d) ri = some (nI (gri i (w / 60 - d / 60) a)) := by
  have hle : d / 60 ≤ w / 60 := Nat.div_le_div_right hd
  unfold f2_richesAt f2_isPlace
  rw [if_neg (show ¬ nI q < 0 from nI_pos (by omega)), if_neg (show ¬ (6 : Int32) ≤ nI q from fun h => by rw [t_le, t_6, t_nI (by omega)] at h; omega)]
  simp only [ob1_k]
  rw [if_neg (by decide), x_gi (by omega) (by omega), cl_nI (by omega), hr, l_60, pk_div (by omega) (by omega) (by omega), pk_div (by omega) (by omega) (by omega), pk_sub hle, x_grown N hi (by omega) (by omega) ha]
  rfl
theorem aInc_x {d p : Nat} (hd : d + p ≤ 9999999) {o : Int32} (h0 : 0 ≤ o.toInt) (h1 : o.toInt ≤ 10100000) : aInc (nI d + nI p) (nI d) o = (if (0 : Int32) < (nI (d + p) - (if nI d < (if nI d < o then o else -1) then (if nI d < o then o else -1) else nI d)) then (nI (d + p) - (if nI d < (if nI d < o then o else -1) then (if nI d < o then o else -1) else nI d)) else (0 : Int32)) := by
  unfold aInc
  rw [nI_add]
  by_cases g : nI d < o
  · have g2 : ¬ o ≤ nI d := fun h => by rw [t_lt] at g; rw [t_le] at h; omega
    simp only [g, if_true, g2, if_false]
    have hs : (nI (d + p) - o).toInt = ((d + p : Nat) : Int) - o.toInt := by rw [t_sub (by rw [t_nI (by omega)]; omega) (by rw [t_nI (by omega)]; omega), t_nI (by omega)]
    simp only [t_lt, t_le, t_0, hs, t_nI (show d + p < 2147483648 by omega)]
    by_cases k : ((d + p : Nat) : Int) ≤ o.toInt
    · rw [if_pos k, if_neg (by omega)]
    · rw [if_neg k, if_pos (by omega)]
  · have g2 : o ≤ nI d := by rw [t_lt] at g; rw [t_le]; omega
    have g3 : ¬ nI d < (-1 : Int32) := fun h => by rw [t_lt, t_nI (by omega), t_m1] at h; omega
    simp only [g, if_false, g2, if_true, g3]
    have hs : (nI (d + p) - nI d).toInt = ((d + p : Nat) : Int) - d := by rw [t_sub (by rw [t_nI (by omega), t_nI (by omega)]; omega) (by rw [t_nI (by omega), t_nI (by omega)]; omega), t_nI (by omega), t_nI (by omega)]
    simp only [t_lt, t_le, t_0, hs, t_nI (show d + p < 2147483648 by omega), t_nI (show d < 2147483648 by omega)]
    by_cases k : ((d + p : Nat) : Int) ≤ d
    · rw [if_pos k, if_neg (by omega)]
    · rw [if_neg k, if_pos (by omega)]
