/-! the text: bytes, blanks, words, numbers -/
def adv (ch : Nat → Nat) (f : Nat → Bool) (k : Nat) : Nat → Nat → Nat
  | 0, p => p
  | n + 1, p => if p < k ∧ f (ch p) = true then adv ch f k n (p + 1) else p
def adk (ch : Nat → Nat) (f : Nat → Bool) (k p : Nat) : Nat := adv ch f k (k - p) p
theorem adk_yes {ch : Nat → Nat} {f : Nat → Bool} {k p : Nat} (h : p < k) (g : f (ch p) = true) : adk ch f k p = adk ch f k (p + 1) := by
  unfold adk
  rw [show k - p = k - (p + 1) + 1 by omega, adv, if_pos ⟨h, g⟩]
theorem adk_no {ch : Nat → Nat} {f : Nat → Bool} {k p : Nat} (h : ¬ (p < k ∧ f (ch p) = true)) : adk ch f k p = p := by
  unfold adk
  cases e : k - p with
  | zero => rfl
  | succ n => rw [adv, if_neg h]
theorem adk_ge (ch : Nat → Nat) (f : Nat → Bool) (k : Nat) : ∀ n p, k - p = n → p ≤ k → p ≤ adk ch f k p ∧ adk ch f k p ≤ k ∧ ¬ (adk ch f k p < k ∧ f (ch (adk ch f k p)) = true) := by
  intro n
  induction n with
  | zero =>
    intro p h1 h2
    rw [adk_no (by omega)]
    exact ⟨Nat.le_refl _, h2, by omega⟩
  | succ n ih =>
    intro p h1 h2
    by_cases c : p < k ∧ f (ch p) = true
    · obtain ⟨g1, g2, g3⟩ := ih (p + 1) (by omega) (by omega)
      rw [adk_yes c.1 c.2]
      exact ⟨by omega, g2, g3⟩
    · rw [adk_no c]
      exact ⟨Nat.le_refl _, h2, c⟩
def isB (c : Nat) : Bool := decide (c = 32)
def isL (c : Nat) : Bool := decide (97 ≤ c ∧ c ≤ 122)
def isD (c : Nat) : Bool := decide (48 ≤ c ∧ c ≤ 57)
/-- both texts, as bytes -/
def TX (k : Nat) (ch : Nat → Nat) (tx mx : Nat → Int32) : Prop := k ≤ 500 ∧ ∀ j, j < k → tx j = nI (ch j) ∧ mx j &&& 255 = nI (ch j) ∧ ch j < 256
theorem c500 {j : Nat} (h : j < 500) : ¬ (500 : Int32) ≤ nI j := by
  rw [show (500 : Int32) = nI 500 from rfl]
  exact nI_ge h (by omega)
theorem lt97 {a : Nat} (h : a < 256) : nI a < (97 : Int32) ↔ a < 97 := nI_ltI (b := 97) (by omega) (by omega)
theorem lt48 {a : Nat} (h : a < 256) : nI a < (48 : Int32) ↔ a < 48 := nI_ltI (b := 48) (by omega) (by omega)
theorem gt122 {a : Nat} (h : a < 256) : (122 : Int32) < nI a ↔ 122 < a := nI_ltI (a := 122) (by omega) (by omega)
theorem gt57 {a : Nat} (h : a < 256) : (57 : Int32) < nI a ↔ 57 < a := nI_ltI (a := 57) (by omega) (by omega)
theorem eq32 {a : Nat} (h : a < 256) : nI a = (32 : Int32) ↔ a = 32 := nI_eq (b := 32) (by omega) (by omega)
theorem eq59 {a : Nat} (h : a < 256) : nI a = (59 : Int32) ↔ a = 59 := nI_eq (b := 59) (by omega) (by omega)
theorem x_skipL (N : Nat) {k : Nat} {ch : Nat → Nat} {tx mx : Nat → Int32} (hT : TX k ch tx mx) : ∀ (m p n : Nat), p + m = k → m < n → f3_skipBlanks_L5 N (nI k) tx n (nI p) (nI p) = some (nI (adk ch isB k p)) := by
  obtain ⟨hk, hE⟩ := hT
  intro m
  induction m with
  | zero =>
    intro p n hp hn
    obtain ⟨n, rfl⟩ : ∃ n', n = n' + 1 := ⟨n - 1, by omega⟩
    rw [f3_skipBlanks_L5, if_pos (nI_le (by omega) (by omega)), adk_no (by omega)]
  | succ m ih =>
    intro p n hp hn
    obtain ⟨n, rfl⟩ : ∃ n', n = n' + 1 := ⟨n - 1, by omega⟩
    obtain ⟨e1, -, e3⟩ := hE p (by omega)
    rw [f3_skipBlanks_L5, if_neg (nI_ge (by omega) (by omega)), if_neg (nI_pos (by omega)), if_neg (c500 (by omega)), x_gi (by omega) (by omega), cl_nI (by omega), e1, nI_1]
    by_cases c : ch p = 32
    · rw [if_pos (by rw [c]; rfl), adk_yes (by omega) (by unfold isB; exact decide_eq_true c)]
      exact ih (p + 1) n (by omega) (by omega)
    · rw [if_neg (fun q => c ((eq32 (by omega)).mp q)), adk_no (fun q => c (of_decide_eq_true q.2))]
theorem x_skip (N : Nat) (hN : 1000 ≤ N) {k : Nat} {ch : Nat → Nat} {tx mx : Nat → Int32} (hT : TX k ch tx mx) {p : Nat} (hp : p ≤ k) : f3_skipBlanks N (nI p) (nI k) tx = some (nI (adk ch isB k p)) := by
  unfold f3_skipBlanks
  rw [x_skipL N hT (k - p) p N (by omega) (by have := hT.1; omega)]
  rfl
theorem x_wordL (N : Nat) {k : Nat} {ch : Nat → Nat} {tx mx : Nat → Int32} (hT : TX k ch tx mx) : ∀ (m p n : Nat), p + m = k → m < n → f3_wordEnd_L10 N (nI k) tx n (nI p) (nI p) = some (nI (adk ch isL k p)) := by
  obtain ⟨hk, hE⟩ := hT
  intro m
  induction m with
  | zero =>
    intro p n hp hn
    obtain ⟨n, rfl⟩ : ∃ n', n = n' + 1 := ⟨n - 1, by omega⟩
    rw [f3_wordEnd_L10, if_pos (nI_le (by omega) (by omega)), adk_no (by omega)]
  | succ m ih =>
    intro p n hp hn
    obtain ⟨n, rfl⟩ : ∃ n', n = n' + 1 := ⟨n - 1, by omega⟩
    obtain ⟨e1, -, e3⟩ := hE p (by omega)
    rw [f3_wordEnd_L10, if_neg (nI_ge (by omega) (by omega)), if_neg (nI_pos (by omega)), if_neg (c500 (by omega)), x_gi (by omega) (by omega), x_gi (by omega) (by omega), cl_nI (by omega), e1, nI_1]
    by_cases c1 : ch p < 97
    · rw [if_pos ((lt97 e3).mpr c1), adk_no (fun q => by have := of_decide_eq_true q.2; omega)]
    · by_cases c2 : 122 < ch p
      · rw [if_neg (fun q => c1 ((lt97 e3).mp q)), if_pos ((gt122 e3).mpr c2), adk_no (fun q => by have := of_decide_eq_true q.2; omega)]
      · rw [if_neg (fun q => c1 ((lt97 e3).mp q)), if_neg (fun q => c2 ((gt122 e3).mp q)), adk_yes (by omega) (decide_eq_true ⟨by omega, by omega⟩)]
        exact ih (p + 1) n (by omega) (by omega)
theorem x_word (N : Nat) (hN : 1000 ≤ N) {k : Nat} {ch : Nat → Nat} {tx mx : Nat → Int32} (hT : TX k ch tx mx) {p : Nat} (hp : p ≤ k) : f3_wordEnd N (nI p) (nI k) tx = some (nI (adk ch isL k p)) := by
  unfold f3_wordEnd
  rw [x_wordL N hT (k - p) p N (by omega) (by have := hT.1; omega)]
  rfl
/-! the reference's here -/
def hre (k : Nat) (ch : Nat → Nat) (p : Nat) : Int32 := if p < k then nI (ch p) else -1
theorem m_here (N : Nat) {k : Nat} {ch : Nat → Nat} {tx mx : Nat → Int32} (hT : TX k ch tx mx) {p : Nat} (hp : p ≤ k) : f9_here N (nI k) (nI p) mx = some (hre k ch p) := by
  obtain ⟨hk, hE⟩ := hT
  unfold f9_here hre
  by_cases c : p < k
  · rw [if_neg (nI_ge c (by omega)), x_gi (by omega) (by omega), cl_nI (by omega), if_pos c, (hE p c).2.1]
  · rw [if_pos (nI_le (by omega) (by omega)), if_neg c]
theorem hre_in (N : Nat) {k : Nat} {ch : Nat → Nat} {tx mx : Nat → Int32} (hT : TX k ch tx mx) {p a b : Nat} (hp : p ≤ k) (hb : b < 1000) : f9_in N (hre k ch p) (nI a) (nI b) = some (if p < k ∧ a ≤ ch p ∧ ch p ≤ b then 1 else 0) ∨ 1000 ≤ a := by
  by_cases ha : a < 1000
  · left
    obtain ⟨hk, hE⟩ := hT
    rw [m_in]
    unfold hre
    by_cases c : p < k
    · have := (hE p c).2.2
      rw [if_pos c, t_nI (by omega), t_nI (by omega), t_nI (by omega)]
      congr 1
      by_cases g : a ≤ ch p ∧ ch p ≤ b
      · rw [if_pos ⟨by omega, by omega⟩, if_pos ⟨c, g⟩]
      · rw [if_neg (fun q => g ⟨by omega, by omega⟩), if_neg (fun q => g q.2)]
    · rw [if_neg c, t_m1, t_nI (by omega), if_neg (by omega), if_neg (fun q => c q.1)]
  · right
    omega
theorem hre_L (N : Nat) {k : Nat} {ch : Nat → Nat} {tx mx : Nat → Int32} (hT : TX k ch tx mx) {p : Nat} (hp : p ≤ k) : f9_in N (hre k ch p) 97 122 = some (if p < k ∧ isL (ch p) = true then 1 else 0) := by
  have h := (hre_in N hT (a := 97) (b := 122) hp (by omega)).resolve_right (by omega)
  have e : (p < k ∧ isL (ch p) = true) ↔ (p < k ∧ 97 ≤ ch p ∧ ch p ≤ 122) := by
    unfold isL
    rw [decide_eq_true_iff]
  by_cases c : p < k ∧ isL (ch p) = true
  · rw [if_pos (e.mp c)] at h
    rw [if_pos c]
    exact h
  · rw [if_neg (fun q => c (e.mpr q))] at h
    rw [if_neg c]
    exact h
theorem hre_D (N : Nat) {k : Nat} {ch : Nat → Nat} {tx mx : Nat → Int32} (hT : TX k ch tx mx) {p : Nat} (hp : p ≤ k) : f9_in N (hre k ch p) 48 57 = some (if p < k ∧ isD (ch p) = true then 1 else 0) := by
  have h := (hre_in N hT (a := 48) (b := 57) hp (by omega)).resolve_right (by omega)
  have e : (p < k ∧ isD (ch p) = true) ↔ (p < k ∧ 48 ≤ ch p ∧ ch p ≤ 57) := by
    unfold isD
    rw [decide_eq_true_iff]
  by_cases c : p < k ∧ isD (ch p) = true
  · rw [if_pos (e.mp c)] at h
    rw [if_pos c]
    exact h
  · rw [if_neg (fun q => c (e.mpr q))] at h
    rw [if_neg c]
    exact h
theorem m_skipL (N : Nat) {k : Nat} {ch : Nat → Nat} {tx mx : Nat → Int32} (hT : TX k ch tx mx) : ∀ (m p n : Nat), p + m = k → m < n → f9_step_L0 N (nI k) mx n (nI p) = some (nI (adk ch isB k p)) := by
  intro m
  have hE := hT.2
  have hk := hT.1
  induction m with
  | zero =>
    intro p n hp hn
    obtain ⟨n, rfl⟩ : ∃ n', n = n' + 1 := ⟨n - 1, by omega⟩
    have h0 : hre k ch p = -1 := if_neg (by omega)
    rw [f9_step_L0, m_here N hT (by omega), ob1_k, h0, if_neg (by decide), adk_no (by omega)]
  | succ m ih =>
    intro p n hp hn
    obtain ⟨n, rfl⟩ : ∃ n', n = n' + 1 := ⟨n - 1, by omega⟩
    have := (hE p (by omega)).2.2
    have h0 : hre k ch p = nI (ch p) := if_pos (by omega)
    rw [f9_step_L0, m_here N hT (by omega), ob1_k, h0, nI_1]
    by_cases c : ch p = 32
    · rw [if_pos (by rw [c]; rfl), adk_yes (by omega) (decide_eq_true c)]
      exact ih (p + 1) n (by omega) (by omega)
    · rw [if_neg (fun q => c ((eq32 (by omega)).mp q)), adk_no (fun q => c (of_decide_eq_true q.2))]
/-! numbers: both values -/
def nvR (s p : Nat) (vc vm : Int32) : Prop := (p - s ≤ 3 ∧ ∃ a : Nat, a + 1 ≤ 10 ^ (p - s) ∧ vc = nI a ∧ vm = nI a) ∨ (3 < p - s ∧ vm = 9999)
theorem dg_loop (N : Nat) {k : Nat} {ch : Nat → Nat} {tx mx : Nat → Int32} (hT : TX k ch tx mx) {s : Nat} : ∀ (m p n n' : Nat) (vc vm : Int32), p + m = k → m < n → m < n' → s ≤ p → nvR s p vc vm →
    ∃ vc' vm', f3_readNumber_L22 N (nI k) tx (nI s) n vc (nI p) (nI p) = some (vc', nI (adk ch isD k p)) ∧ f9_step_L189 N (nI k) mx (nI s) n' (nI p) vm = some (nI (adk ch isD k p), vm') ∧ nvR s (adk ch isD k p) vc' vm' := by
  have hE := hT.2
  have hk := hT.1
  intro m
  induction m with
  | zero =>
    intro p n n' vc vm hp hn hn' hs hv
    obtain ⟨n, rfl⟩ : ∃ n', n = n' + 1 := ⟨n - 1, by omega⟩
    obtain ⟨n', rfl⟩ : ∃ x, n' = x + 1 := ⟨n' - 1, by omega⟩
    have hd := hre_D N hT (p := p) (by omega)
    rw [if_neg (by omega)] at hd
    rw [f3_readNumber_L22, if_pos (nI_le (by omega) (by omega)), f9_step_L189, m_here N hT (by omega), ob1_k, hd, ob1_k, if_pos rfl, adk_no (by omega)]
    exact ⟨vc, vm, rfl, rfl, hv⟩
  | succ m ih =>
    intro p n n' vc vm hp hn hn' hs hv
    obtain ⟨n, rfl⟩ : ∃ n', n = n' + 1 := ⟨n - 1, by omega⟩
    obtain ⟨n', rfl⟩ : ∃ x, n' = x + 1 := ⟨n' - 1, by omega⟩
    obtain ⟨e1, -, e3⟩ := hE p (by omega)
    have h0 : hre k ch p = nI (ch p) := if_pos (by omega)
    rw [f3_readNumber_L22, if_neg (nI_ge (by omega) (by omega)), if_neg (nI_pos (by omega)), if_neg (c500 (by omega)), x_gi (by omega) (by omega), x_gi (by omega) (by omega), x_gi (by omega) (by omega), cl_nI (by omega), e1, nI_1]
    rw [f9_step_L189, m_here N hT (by omega), ob1_k, nI_1]
    have hd := hre_D N hT (p := p) (by omega)
    by_cases c : p < k ∧ isD (ch p) = true
    · have c' := of_decide_eq_true c.2
      rw [if_pos c] at hd
      rw [hd, ob1_k, if_neg (show ¬ (1 : Int32) = 0 by decide), if_neg (fun q => by have := (lt48 e3).mp q; omega), if_neg (fun q => by have := (gt57 e3).mp q; omega), pk_sub hs, ob1_k, h0, adk_yes c.1 c.2]
      have e3' : ((3 : Int32) ≤ nI (p - s)) ↔ 3 ≤ p - s := nI_leI (a := 3) (b := p - s) (by omega) (by omega)
      have e4' : ((4 : Int32) ≤ nI (p - s)) ↔ 4 ≤ p - s := nI_leI (a := 4) (b := p - s) (by omega) (by omega)
      rcases hv with ⟨v1, a, v2, rfl, rfl⟩ | ⟨v1, rfl⟩
      · have d1 : (10 : Int32) * nI a + (nI (ch p) - 48) = nI (10 * a + (ch p - 48)) := by
          rw [show (10 : Int32) = nI 10 from rfl, show (48 : Int32) = nI 48 from rfl, pk_mul, pk_sub (by omega), nI_add]
        have d2 : (10 : Int32) * nI a + nI (ch p) - 48 = nI (10 * a + (ch p - 48)) := by
          rw [show (10 : Int32) = nI 10 from rfl, show (48 : Int32) = nI 48 from rfl, pk_mul, nI_add, pk_sub (by omega), show 10 * a + ch p - 48 = 10 * a + (ch p - 48) by omega]
        rw [if_neg (fun q => by have := e4'.mp q; omega), d1]
        by_cases g : 3 ≤ p - s
        · rw [if_pos (e3'.mpr g)]
          exact ih (p + 1) n n' _ _ (by omega) (by omega) (by omega) (by omega) (Or.inr ⟨by omega, rfl⟩)
        · rw [if_neg (fun q => g (e3'.mp q)), d2]
          refine ih (p + 1) n n' _ _ (by omega) (by omega) (by omega) (by omega) (Or.inl ⟨by omega, _, ?_, rfl, rfl⟩)
          rw [show p + 1 - s = p - s + 1 by omega, Nat.pow_succ]
          omega
      · rw [if_pos (e4'.mpr (by omega)), if_pos (e3'.mpr (by omega))]
        exact ih (p + 1) n n' _ _ (by omega) (by omega) (by omega) (by omega) (Or.inr ⟨by omega, rfl⟩)
    · have c' : ¬ (48 ≤ ch p ∧ ch p ≤ 57) := fun q => c ⟨by omega, decide_eq_true q⟩
      rw [if_neg c] at hd
      rw [hd, ob1_k, if_pos rfl, adk_no c]
      by_cases g : ch p < 48
      · rw [if_pos ((lt48 e3).mpr g)]
        exact ⟨vc, vm, rfl, rfl, hv⟩
      · rw [if_neg (fun q => g ((lt48 e3).mp q)), if_pos ((gt57 e3).mpr (by omega))]
        exact ⟨vc, vm, rfl, rfl, hv⟩
