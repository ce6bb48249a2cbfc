/-! words: the reference's number of a word, the class's letters -/
theorem adk_all (ch : Nat → Nat) (f : Nat → Bool) (k : Nat) : ∀ n p, k - p = n → p ≤ k → ∀ q, p ≤ q → q < adk ch f k p → f (ch q) = true := by
  intro n
  induction n with
  | zero =>
    intro p h1 h2 q h3 h4
    rw [adk_no (by omega)] at h4
    omega
  | succ n ih =>
    intro p h1 h2 q h3 h4
    by_cases c : p < k ∧ f (ch p) = true
    · by_cases e : q = p
      · rw [e]; exact c.2
      · rw [adk_yes c.1 c.2] at h4
        exact ih (p + 1) (by omega) (by omega) q (by omega) h4
    · rw [adk_no c] at h4
      omega
def hC (c : Nat → Nat) : Nat → Nat
  | 0 => 0
  | m + 1 => 27 * hC c m + c m
def cdV (c : Nat → Nat) (o : Nat) : Nat := if o ≤ 6 then hC c o else hC c 6
def mrV (c : Nat → Nat) (o : Nat) : Nat := if o ≤ 6 then 0 else if o = 7 then c 6 else if o = 8 then 27 * c 6 + c 7 else 999999
theorem wd_loop (N : Nat) {k : Nat} {ch : Nat → Nat} {tx mx : Nat → Int32} (hT : TX k ch tx mx) {s : Nat} : ∀ (m p n : Nat), p + m = k → m < n → s ≤ p →
    f9_step_L68 N (nI k) mx (nI s) n (nI (cdV (fun j => ch (s + j) - 96) (p - s))) (nI (mrV (fun j => ch (s + j) - 96) (p - s))) (nI p) = some (nI (cdV (fun j => ch (s + j) - 96) (adk ch isL k p - s)), nI (mrV (fun j => ch (s + j) - 96) (adk ch isL k p - s)), nI (adk ch isL k p)) := by
  have hE := hT.2
  have hk := hT.1
  intro m
  induction m with
  | zero =>
    intro p n hp hn hs
    obtain ⟨n, rfl⟩ : ∃ n', n = n' + 1 := ⟨n - 1, by omega⟩
    have hd := hre_L N hT (p := p) (by omega)
    rw [if_neg (by omega)] at hd
    rw [f9_step_L68, m_here N hT (by omega), ob1_k, hd, ob1_k, if_pos rfl, adk_no (by omega)]
  | succ m ih =>
    intro p n hp hn hs
    obtain ⟨n, rfl⟩ : ∃ n', n = n' + 1 := ⟨n - 1, by omega⟩
    obtain ⟨-, -, e3⟩ := hE p (by omega)
    have h0 : hre k ch p = nI (ch p) := if_pos (by omega)
    have hd := hre_L N hT (p := p) (by omega)
    rw [f9_step_L68, m_here N hT (by omega), ob1_k]
    by_cases c : p < k ∧ isL (ch p) = true
    · have c' := of_decide_eq_true c.2
      have ih := ih (p + 1) n (by omega) (by omega) (by omega)
      rw [if_pos c] at hd
      rw [hd, ob1_k, if_neg (show ¬ (1 : Int32) = 0 by decide), pk_sub hs, adk_yes c.1 c.2]
      have e6 : ((6 : Int32) ≤ nI (p - s)) ↔ 6 ≤ p - s := nI_leI (a := 6) (b := p - s) (by omega) (by omega)
      have e8 : ((8 : Int32) ≤ nI (p - s)) ↔ 8 ≤ p - s := nI_leI (a := 8) (b := p - s) (by omega) (by omega)
      have val : ∀ a : Nat, (27 : Int32) * nI a + nI (ch p) - 96 = nI (27 * a + (ch p - 96)) := fun a => by
        rw [show (27 : Int32) = nI 27 from rfl, show (96 : Int32) = nI 96 from rfl, pk_mul, nI_add, pk_sub (by omega), show 27 * a + ch p - 96 = 27 * a + (ch p - 96) by omega]
      have chp : ch (s + (p - s)) - 96 = ch p - 96 := by rw [show s + (p - s) = p by omega]
      unfold f9_step_J116
      rw [pk_sub hs, nI_1, m_here N hT (by omega), ob1_k, ob1_k, h0, val, val]
      rw [show p + 1 - s = p - s + 1 by omega] at ih
      generalize p - s = o at *
      by_cases g6 : 6 ≤ o
      · rw [if_pos (e6.mpr g6), if_pos (e6.mpr g6)]
        have k1 : cdV (fun j => ch (s + j) - 96) (o + 1) = cdV (fun j => ch (s + j) - 96) o := by
          unfold cdV
          rw [if_neg (by omega)]
          by_cases z : o ≤ 6
          · rw [if_pos z, show o = 6 by omega]
          · rw [if_neg z]
        rw [k1] at ih
        by_cases g8 : 8 ≤ o
        · rw [if_pos (e8.mpr g8)]
          have k2 : mrV (fun j => ch (s + j) - 96) (o + 1) = 999999 := by
            unfold mrV
            rw [if_neg (by omega), if_neg (by omega), if_neg (by omega)]
          rw [k2] at ih
          exact ih
        · rw [if_neg (fun q => g8 (e8.mp q))]
          have k2 : mrV (fun j => ch (s + j) - 96) (o + 1) = 27 * mrV (fun j => ch (s + j) - 96) o + (ch p - 96) := by
            rcases (show o = 6 ∨ o = 7 by omega) with z | z
            · subst z
              unfold mrV
              rw [if_neg (by omega), if_pos rfl, if_pos (by omega)]
              show ch (s + 6) - 96 = _
              rw [chp]
              omega
            · subst z
              unfold mrV
              rw [if_neg (by omega), if_neg (by omega), if_pos rfl, if_neg (by omega), if_pos rfl]
              show 27 * (ch (s + 6) - 96) + (ch (s + 7) - 96) = _
              rw [chp]
          rw [k2] at ih
          exact ih
      · rw [if_neg (fun q => g6 (e6.mp q)), if_neg (fun q => g6 (e6.mp q))]
        have k1 : cdV (fun j => ch (s + j) - 96) (o + 1) = 27 * cdV (fun j => ch (s + j) - 96) o + (ch p - 96) := by
          unfold cdV
          rw [if_pos (by omega), if_pos (by omega), hC]
          show 27 * _ + (ch (s + o) - 96) = _
          rw [chp]
        have k2 : mrV (fun j => ch (s + j) - 96) (o + 1) = mrV (fun j => ch (s + j) - 96) o := by
          unfold mrV
          rw [if_pos (by omega), if_pos (by omega)]
        rw [k1, k2] at ih
        exact ih
    · rw [if_neg c] at hd
      rw [hd, ob1_k, if_pos rfl, adk_no c]
/-! the class's words -/
theorem sp_loop (N : Nat) {k : Nat} {ch : Nat → Nat} {tx mx : Nat → Int32} (hT : TX k ch tx mx) {s wi len : Nat} {W : Nat → Nat} (hl : lenS.getD wi 0 = len) (hW : ∀ j, j < len → chS wi (nI j) = nI (W j) ∧ W j < 256) (hlen : len ≤ 8) (hs : s + len ≤ k) : ∀ (m j n : Nat), j + m = len → m < n →
    ((∀ x, j ≤ x → x < len → ch (s + x) = W x) ∧ f3_spells_L25 N (nI s) wi tx n (nI j) = some 1) ∨ (¬ (∀ x, j ≤ x → x < len → ch (s + x) = W x) ∧ f3_spells_L25 N (nI s) wi tx n (nI j) = some 0) := by
  have hE := hT.2
  have hk := hT.1
  intro m
  induction m with
  | zero =>
    intro j n hj hn
    obtain ⟨n, rfl⟩ : ∃ n', n = n' + 1 := ⟨n - 1, by omega⟩
    exact Or.inl ⟨fun x h1 h2 => by omega, by rw [f3_spells_L25, hl, if_pos (nI_le (by omega) (by omega))]⟩
  | succ m ih =>
    intro j n hj hn
    obtain ⟨n, rfl⟩ : ∃ n', n = n' + 1 := ⟨n - 1, by omega⟩
    obtain ⟨e1, -, e3⟩ := hE (s + j) (by omega)
    obtain ⟨w1, w2⟩ := hW j (by omega)
    rw [f3_spells_L25, hl, if_neg (nI_ge (by omega) (by omega)), nI_add, x_gi (by omega) (by omega), x_gi (by omega) (by omega), cl_nI (by omega), e1, w1, nI_1]
    by_cases c : ch (s + j) = W j
    · rw [if_pos (by rw [c])]
      rcases ih (j + 1) n (by omega) (by omega) with ⟨g1, g2⟩ | ⟨g1, g2⟩
      · refine Or.inl ⟨fun x h1 h2 => ?_, g2⟩
        by_cases z : x = j
        · rw [z]; exact c
        · exact g1 x (by omega) h2
      · exact Or.inr ⟨fun h => g1 (fun x h1 h2 => h x (by omega) h2), g2⟩
    · rw [if_neg (fun q => c ((nI_eq (by omega) (by omega)).mp q))]
      exact Or.inr ⟨fun h => c (h j (Nat.le_refl _) (by omega)), rfl⟩
theorem x_spells (N : Nat) (hN : 100 ≤ N) {k : Nat} {ch : Nat → Nat} {tx mx : Nat → Int32} (hT : TX k ch tx mx) {s e wi len : Nat} {W : Nat → Nat} (hl : lenS.getD wi 0 = len) (hW : ∀ j, j < len → chS wi (nI j) = nI (W j) ∧ W j < 256) (hlen : len ≤ 8) (hse : s ≤ e) (he : e ≤ k) :
    ((e - s = len ∧ ∀ x, x < len → ch (s + x) = W x) ∧ f3_spells N (nI s) (nI e) wi tx = some 1) ∨ (¬ (e - s = len ∧ ∀ x, x < len → ch (s + x) = W x) ∧ f3_spells N (nI s) (nI e) wi tx = some 0) := by
  have hk := hT.1
  unfold f3_spells
  rw [if_neg (nI_pos (by omega)), if_neg (show ¬ (500 : Int32) < nI e from nI_nlt (a := 500) (by omega) (by omega)), pk_sub hse, hl]
  by_cases c : e - s = len
  · rw [if_pos (by rw [c])]
    have h := sp_loop N hT hl hW hlen (show s + len ≤ k by omega) len 0 N (by omega) (by omega)
    rw [nI_0] at h
    rcases h with ⟨g1, g2⟩ | ⟨g1, g2⟩
    · exact Or.inl ⟨⟨c, fun x hx => g1 x (Nat.zero_le _) hx⟩, g2⟩
    · exact Or.inr ⟨fun h => g1 (fun x _ hx => h.2 x hx), g2⟩
  · rw [if_neg (fun q => c ((nI_eq (by omega) (by omega)).mp q))]
    exact Or.inr ⟨fun h => c h.1, rfl⟩
/-- a word, as the places of its letters in the alphabet -/
def isW (l : List Nat) (n : Nat) (c : Nat → Nat) : Prop := n = l.length ∧ ∀ x, x < l.length → c x = l.getD x 0
theorem x_spW (N : Nat) (hN : 100 ≤ N) {k : Nat} {ch : Nat → Nat} {tx mx : Nat → Int32} (hT : TX k ch tx mx) {s e wi : Nat} (l : List Nat) (hl : lenS.getD wi 0 = l.length) (hW : ∀ j, j < l.length → chS wi (nI j) = nI (l.getD j 0 + 96) ∧ 1 ≤ l.getD j 0 ∧ l.getD j 0 ≤ 26) (hlen : l.length ≤ 8) (hse : s ≤ e) (he : e ≤ k) :
    (isW l (e - s) (fun j => ch (s + j) - 96) ∧ f3_spells N (nI s) (nI e) wi tx = some 1) ∨ (¬ isW l (e - s) (fun j => ch (s + j) - 96) ∧ f3_spells N (nI s) (nI e) wi tx = some 0) := by
  rcases x_spells N hN hT (W := fun j => l.getD j 0 + 96) hl (fun j hj => ⟨(hW j hj).1, by have := (hW j hj).2; omega⟩) hlen hse he with ⟨⟨a1, a2⟩, b⟩ | ⟨a, b⟩
  · refine Or.inl ⟨⟨a1, fun x hx => ?_⟩, b⟩
    have := a2 x hx
    show ch (s + x) - 96 = l.getD x 0
    omega
  · refine Or.inr ⟨fun h => a ⟨h.1, fun x hx => ?_⟩, b⟩
    have h2 : ch (s + x) - 96 = l.getD x 0 := h.2 x hx
    have := (hW x hx).2
    show ch (s + x) = l.getD x 0 + 96
    omega
def w_part : List Nat := [16, 1, 18, 20]
def w_mouth : List Nat := [13, 15, 21, 20, 8]
def w_way : List Nat := [23, 1, 25]
def w_person : List Nat := [16, 5, 18, 19, 15, 14]
def w_interest : List Nat := [9, 14, 20, 5, 18, 5, 19, 20]
def w_winter : List Nat := [23, 9, 14, 20, 5, 18]
theorem l_part : ∀ j, j < w_part.length → chS 0 (nI j) = nI (w_part.getD j 0 + 96) ∧ 1 ≤ w_part.getD j 0 ∧ w_part.getD j 0 ≤ 26 := by decide
theorem l_mouth : ∀ j, j < w_mouth.length → chS 1 (nI j) = nI (w_mouth.getD j 0 + 96) ∧ 1 ≤ w_mouth.getD j 0 ∧ w_mouth.getD j 0 ≤ 26 := by decide
theorem l_way : ∀ j, j < w_way.length → chS 2 (nI j) = nI (w_way.getD j 0 + 96) ∧ 1 ≤ w_way.getD j 0 ∧ w_way.getD j 0 ≤ 26 := by decide
theorem l_person : ∀ j, j < w_person.length → chS 3 (nI j) = nI (w_person.getD j 0 + 96) ∧ 1 ≤ w_person.getD j 0 ∧ w_person.getD j 0 ≤ 26 := by decide
theorem l_interest : ∀ j, j < w_interest.length → chS 4 (nI j) = nI (w_interest.getD j 0 + 96) ∧ 1 ≤ w_interest.getD j 0 ∧ w_interest.getD j 0 ≤ 26 := by decide
theorem l_winter : ∀ j, j < w_winter.length → chS 5 (nI j) = nI (w_winter.getD j 0 + 96) ∧ 1 ≤ w_winter.getD j 0 ∧ w_winter.getD j 0 ≤ 26 := by decide
/-- words by their numbers -/
theorem hC_eq {m : Nat} {c : Nat → Nat} (hm : m ≤ 6) (hc : ∀ j, j < m → 1 ≤ c j ∧ c j ≤ 26) : hC c m < 400000000 ∧ (hC c m = 16819 ↔ m = 3 ∧ c 0 = 23 ∧ c 1 = 1 ∧ c 2 = 25) ∧ (hC c m = 316163 ↔ m = 4 ∧ c 0 = 16 ∧ c 1 = 1 ∧ c 2 = 18 ∧ c 3 = 20) ∧ (hC c m = 7219835 ↔ m = 5 ∧ c 0 = 13 ∧ c 1 = 15 ∧ c 2 = 21 ∧ c 3 = 20 ∧ c 4 = 8) ∧ (hC c m = 232608281 ↔ m = 6 ∧ c 0 = 16 ∧ c 1 = 5 ∧ c 2 = 18 ∧ c 3 = 19 ∧ c 4 = 15 ∧ c 5 = 14) ∧ (hC c m = 335098125 ↔ m = 6 ∧ c 0 = 23 ∧ c 1 = 9 ∧ c 2 = 14 ∧ c 3 = 20 ∧ c 4 = 5 ∧ c 5 = 18) ∧ (hC c m = 136978133 ↔ m = 6 ∧ c 0 = 9 ∧ c 1 = 14 ∧ c 2 = 20 ∧ c 3 = 5 ∧ c 4 = 18 ∧ c 5 = 5) := by
  rcases (show m = 0 ∨ m = 1 ∨ m = 2 ∨ m = 3 ∨ m = 4 ∨ m = 5 ∨ m = 6 by omega) with rfl | rfl | rfl | rfl | rfl | rfl | rfl
  · simp only [hC]
    omega
  · have h0 := hc 0 (by omega)
    simp only [hC, true_and, false_and]
    omega
  · have h0 := hc 0 (by omega)
    have h1 := hc 1 (by omega)
    simp only [hC, true_and, false_and]
    omega
  · have h0 := hc 0 (by omega)
    have h1 := hc 1 (by omega)
    have h2 := hc 2 (by omega)
    simp only [hC, true_and, false_and]
    refine ⟨by omega, ⟨fun h => by omega, fun h => by omega⟩, ⟨fun h => by omega, fun h => by omega⟩, ⟨fun h => by omega, fun h => by omega⟩, ⟨fun h => by omega, fun h => by omega⟩, ⟨fun h => by omega, fun h => by omega⟩, ⟨fun h => by omega, fun h => by omega⟩⟩
  · have h0 := hc 0 (by omega)
    have h1 := hc 1 (by omega)
    have h2 := hc 2 (by omega)
    have h3 := hc 3 (by omega)
    simp only [hC, true_and, false_and]
    refine ⟨by omega, ⟨fun h => by omega, fun h => by omega⟩, ⟨fun h => by omega, fun h => by omega⟩, ⟨fun h => by omega, fun h => by omega⟩, ⟨fun h => by omega, fun h => by omega⟩, ⟨fun h => by omega, fun h => by omega⟩, ⟨fun h => by omega, fun h => by omega⟩⟩
  · have h0 := hc 0 (by omega)
    have h1 := hc 1 (by omega)
    have h2 := hc 2 (by omega)
    have h3 := hc 3 (by omega)
    have h4 := hc 4 (by omega)
    simp only [hC, true_and, false_and]
    refine ⟨by omega, ⟨fun h => by omega, fun h => by omega⟩, ⟨fun h => by omega, fun h => by omega⟩, ⟨fun h => by omega, fun h => by omega⟩, ⟨fun h => by omega, fun h => by omega⟩, ⟨fun h => by omega, fun h => by omega⟩, ⟨fun h => by omega, fun h => by omega⟩⟩
  · have h0 := hc 0 (by omega)
    have h1 := hc 1 (by omega)
    have h2 := hc 2 (by omega)
    have h3 := hc 3 (by omega)
    have h4 := hc 4 (by omega)
    have h5 := hc 5 (by omega)
    simp only [hC, true_and, false_and]
    refine ⟨by omega, ⟨fun h => by omega, fun h => by omega⟩, ⟨fun h => by omega, fun h => by omega⟩, ⟨fun h => by omega, fun h => by omega⟩, ⟨fun h => by omega, fun h => by omega⟩, ⟨fun h => by omega, fun h => by omega⟩, ⟨fun h => by omega, fun h => by omega⟩⟩
