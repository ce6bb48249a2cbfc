/-! FEWEST: ways to name the men of the lines -/
def usd (a : Nat → Nat) : Nat → Nat
  | 0 => 0
  | k + 1 => if usd a k < a k + 1 then a k + 1 else usd a k
def vpr (A : Nat → Nat → Prop) (a : Nat → Nat) : Nat → Prop
  | 0 => True
  | k + 1 => vpr A a k ∧ a k ≤ usd a k ∧ ∀ j, j < k → a j = a k → A j k
theorem usd_cong {a b : Nat → Nat} : ∀ k, (∀ j, j < k → a j = b j) → usd a k = usd b k := by
  intro k
  induction k with
  | zero => exact fun _ => rfl
  | succ k ih =>
    intro h
    rw [usd, usd, ih (fun j hj => h j (by omega)), h k (by omega)]
theorem vpr_cong {A : Nat → Nat → Prop} {a b : Nat → Nat} : ∀ k, (∀ j, j < k → a j = b j) → vpr A a k → vpr A b k := by
  intro k
  induction k with
  | zero => exact fun _ _ => trivial
  | succ k ih =>
    intro h v
    obtain ⟨v1, v2, v3⟩ := v
    refine ⟨ih (fun j hj => h j (by omega)) v1, ?_, fun j hj e => ?_⟩
    · rw [← h k (by omega), ← usd_cong k (fun j hj => h j (by omega))]
      exact v2
    · rw [← h j (by omega), ← h k (by omega)] at e
      exact v3 j hj e
theorem vpr_le {A : Nat → Nat → Prop} {a : Nat → Nat} : ∀ n k, k ≤ n → vpr A a n → vpr A a k := by
  intro n
  induction n with
  | zero =>
    intro k hk v
    rw [show k = 0 by omega]
    exact trivial
  | succ n ih =>
    intro k hk v
    by_cases c : k = n + 1
    · rw [c]; exact v
    · exact ih k (by omega) v.1
theorem usd_mono {a : Nat → Nat} : ∀ n k, k ≤ n → usd a k ≤ usd a n := by
  intro n
  induction n with
  | zero =>
    intro k hk
    rw [show k = 0 by omega]
    exact Nat.le_refl _
  | succ n ih =>
    intro k hk
    by_cases c : k = n + 1
    · rw [c]
      exact Nat.le_refl _
    · have := ih k (by omega)
      rw [usd]
      split <;> omega
theorem usd_at {a : Nat → Nat} {n k : Nat} (h : k < n) : a k + 1 ≤ usd a n := by
  have g := usd_mono (a := a) n (k + 1) h
  rw [usd] at g
  split at g <;> omega
theorem usd_le {A : Nat → Nat → Prop} {a : Nat → Nat} : ∀ k, vpr A a k → usd a k ≤ k := by
  intro k
  induction k with
  | zero => exact fun _ => Nat.le_refl _
  | succ k ih =>
    intro v
    have h1 := ih v.1
    have h2 := v.2.1
    rw [usd]
    split <;> omega
def upN (a : Nat → Nat) (k m : Nat) : Nat → Nat := fun j => if j = k then m else a j
theorem upN_s {a : Nat → Nat} {k m : Nat} : upN a k m k = m := if_pos rfl
theorem upN_n {a : Nat → Nat} {k m j : Nat} (h : j ≠ k) : upN a k m j = a j := if_neg h
theorem usd_up {a : Nat → Nat} {k m : Nat} : usd (upN a k m) (k + 1) = if usd a k < m + 1 then m + 1 else usd a k := by
  rw [usd, upN_s, usd_cong k (fun j hj => upN_n (by omega))]
def lexN (n : Nat) (b c : Nat → Nat) : Prop := (∀ j, j < n → b j = c j) ∨ ∃ i, i < n ∧ (∀ j, j < i → b j = c j) ∧ b i < c i
theorem lexN_anti {n : Nat} {b c : Nat → Nat} (h : lexN n b c) (g : lexN n c b) : ∀ j, j < n → b j = c j := by
  rcases h with h | ⟨i, h1, h2, h3⟩
  · exact h
  · rcases g with g | ⟨i', g1, g2, g3⟩
    · exact fun j hj => (g j hj).symm
    · by_cases c1 : i < i'
      · have := g2 i c1
        omega
      · by_cases c2 : i' < i
        · have := h2 i' c2
          omega
        · have e : i = i' := by omega
          subst e
          omega
def Cpl (n : Nat) (A : Nat → Nat → Prop) (k : Nat) (a b : Nat → Nat) : Prop := (∀ j, j < k → b j = a j) ∧ vpr A b n
def cjn (A : Nat → Nat → Prop) (a : Nat → Nat) (k m : Nat) : Prop := ∀ j, j < k → a j = m → A j k
theorem vpr_up {A : Nat → Nat → Prop} {a : Nat → Nat} {k m : Nat} (h : vpr A a k) (hm : m ≤ usd a k) (hj : cjn A a k m) : vpr A (upN a k m) (k + 1) := by
  refine ⟨vpr_cong k (fun j hj => (upN_n (by omega)).symm) h, ?_, fun j h1 h2 => ?_⟩
  · rw [upN_s, usd_cong k (fun j hj => upN_n (by omega))]
    exact hm
  · rw [upN_s, upN_n (by omega)] at h2
    exact hj j h1 h2
/-- what a completion has at line k -/
theorem Cpl_at {n : Nat} {A : Nat → Nat → Prop} {k : Nat} {a b : Nat → Nat} (hk : k < n) (h : Cpl n A k a b) : b k ≤ usd a k ∧ cjn A a k (b k) := by
  have v := vpr_le n (k + 1) hk h.2
  refine ⟨?_, fun j h1 h2 => ?_⟩
  · rw [← usd_cong k h.1]
    exact v.2.1
  · rw [← h.1 j h1] at h2
    exact v.2.2 j h1 h2
theorem Cpl_up {n : Nat} {A : Nat → Nat → Prop} {k : Nat} {a b : Nat → Nat} : Cpl n A (k + 1) (upN a k (b k)) b ↔ Cpl n A k a b := by
  constructor
  · intro h
    exact ⟨fun j hj => by rw [h.1 j (by omega), upN_n (by omega)], h.2⟩
  · intro h
    refine ⟨fun j hj => ?_, h.2⟩
    by_cases c : j = k
    · rw [c, upN_s]
    · rw [upN_n c]
      exact h.1 j (by omega)
/-! the class: the first way with so many men at most -/
theorem cj_loop (N : Nat) {n i m : Nat} (hn : n ≤ 8) (hi : i < n) (hm : m ≤ 8) {A : Nat → Nat → Prop} {a : Nat → Nat} {man d g : Nat → Int32} (hAg : ∀ x y, x < n → y < n → (A x y ∧ f4_agree N (nI x) (nI y) (nI n) d g = some 1) ∨ (¬ A x y ∧ f4_agree N (nI x) (nI y) (nI n) d g = some 0)) (ha : ∀ j, j < i → man j = nI (a j) ∧ a j ≤ 8) : ∀ (k j f : Nat), j + k = i → k < f →
    ((∀ x, j ≤ x → x < i → a x = m → A x i) ∧ f4_canJoin_L2 N (nI i) (nI m) (nI n) man d g f (nI j) = some 1) ∨ (¬ (∀ x, j ≤ x → x < i → a x = m → A x i) ∧ f4_canJoin_L2 N (nI i) (nI m) (nI n) man d g f (nI j) = some 0) := by
  intro k
  induction k with
  | zero =>
    intro j f hj hf
    obtain ⟨f, rfl⟩ : ∃ n', f = n' + 1 := ⟨f - 1, by omega⟩
    exact Or.inl ⟨fun x h1 h2 => by omega, by rw [f4_canJoin_L2, if_pos (nI_le (by omega) (by omega))]⟩
  | succ k ih =>
    intro j f hj hf
    obtain ⟨f, rfl⟩ : ∃ n', f = n' + 1 := ⟨f - 1, by omega⟩
    obtain ⟨a1, a2⟩ := ha j (by omega)
    rw [f4_canJoin_L2, if_neg (nI_ge (by omega) (by omega)), if_neg (by rw [t_le, t_8, t_nI (by omega)]; omega), x_gi (by omega) (by omega), cl_nI (by omega), a1, nI_1]
    by_cases c : a j = m
    · rw [if_pos (by rw [c])]
      rcases hAg j i (by omega) hi with ⟨g1, g2⟩ | ⟨g1, g2⟩
      · rw [g2, ob1_k, if_neg (by decide)]
        rcases ih (j + 1) f (by omega) (by omega) with ⟨k1, k2⟩ | ⟨k1, k2⟩
        · refine Or.inl ⟨fun x h1 h2 h3 => ?_, k2⟩
          by_cases z : x = j
          · rw [z]; exact g1
          · exact k1 x (by omega) h2 h3
        · exact Or.inr ⟨fun h => k1 (fun x h1 h2 h3 => h x (by omega) h2 h3), k2⟩
      · rw [g2, ob1_k, if_pos rfl]
        exact Or.inr ⟨fun h => g1 (h j (Nat.le_refl _) (by omega) c), rfl⟩
    · rw [if_neg (fun h => c ((nI_eq (by omega) (by omega)).mp h))]
      rcases ih (j + 1) f (by omega) (by omega) with ⟨k1, k2⟩ | ⟨k1, k2⟩
      · refine Or.inl ⟨fun x h1 h2 h3 => ?_, k2⟩
        by_cases z : x = j
        · rw [z] at h3
          exact absurd h3 c
        · exact k1 x (by omega) h2 h3
      · exact Or.inr ⟨fun h => k1 (fun x h1 h2 h3 => h x (by omega) h2 h3), k2⟩
def FstC (n : Nat) (A : Nat → Nat → Prop) (k : Nat) (a : Nat → Nat) (M : Nat) (b : Nat → Nat) : Prop := Cpl n A k a b ∧ usd b n ≤ M ∧ ∀ c, Cpl n A k a c → usd c n ≤ M → lexN n b c
theorem x_place (N : Nat) (hN : 20 ≤ N) {n M : Nat} (hn : n ≤ 8) (hM : M ≤ 8) {A : Nat → Nat → Prop} {d g : Nat → Int32} (hAg : ∀ x y, x < n → y < n → (A x y ∧ f4_agree N (nI x) (nI y) (nI n) d g = some 1) ∨ (¬ A x y ∧ f4_agree N (nI x) (nI y) (nI n) d g = some 0)) : ∀ (dd i : Nat) (a : Nat → Nat) (man : Nat → Int32), i ≤ n → n - i < dd → (∀ j, j < i → man j = nI (a j)) → vpr A a i → usd a i ≤ M →
    ∃ r man', f4_placeFrom N dd (nI i) (nI (usd a i)) (nI M) (nI n) man d g = some (r, man') ∧ ((r = 0 ∧ (∀ j, j < i → man' j = man j) ∧ ∀ b, Cpl n A i a b → ¬ usd b n ≤ M) ∨ (r = 1 ∧ ∃ b, FstC n A i a M b ∧ ∀ j, j < n → man' j = nI (b j))) := by
  intro dd
  induction dd with
  | zero => intro i a man h1 h2; omega
  | succ dd ih =>
    intro i a man h1 h2 h3 h4 h5
    rw [f4_placeFrom]
    by_cases c : i = n
    · subst c
      rw [if_pos (nI_le (Nat.le_refl _) (by omega))]
      exact ⟨1, man, rfl, Or.inr ⟨rfl, a, ⟨⟨fun _ _ => rfl, h4⟩, h5, fun b hb _ => Or.inl (fun j hj => (hb.1 j hj).symm)⟩, h3⟩⟩
    · have hin : i < n := by omega
      rw [if_neg (nI_ge hin (by omega)), if_pos (by rw [t_lt, t_8, t_nI (by omega)]; omega)]
      have hu := usd_le i h4
      have hai : ∀ j, j < i → a j ≤ 8 := fun j hj => by
        have := usd_at (a := a) hj
        omega
      have L : ∀ (k m f : Nat) (man : Nat → Int32), m + k = usd a i + 1 → k < f → (∀ j, j < i → man j = nI (a j)) → (∀ b, Cpl n A i a b → usd b n ≤ M → m ≤ b i) →
          ∃ r man', f4_placeFrom_L19 N (nI i) (nI (usd a i)) (nI M) (nI n) d g (f4_placeFrom N dd) f (nI m) man = some (r, man') ∧ ((r = 0 ∧ (∀ j, j < i → man' j = man j) ∧ ∀ b, Cpl n A i a b → ¬ usd b n ≤ M) ∨ (r = 1 ∧ ∃ b, FstC n A i a M b ∧ ∀ j, j < n → man' j = nI (b j))) := by
        intro k
        induction k with
        | zero =>
          intro m f man hm hf h3 hno
          obtain ⟨f, rfl⟩ : ∃ n', f = n' + 1 := ⟨f - 1, by omega⟩
          refine ⟨0, man, by rw [f4_placeFrom_L19, if_pos (nI_lt (by omega) (by omega))], Or.inl ⟨rfl, fun _ _ => rfl, fun b hb hu => ?_⟩⟩
          have := hno b hb hu
          have := (Cpl_at hin hb).1
          omega
        | succ k ihk =>
          intro m f man hm hf h3 hno
          obtain ⟨f, rfl⟩ : ∃ n', f = n' + 1 := ⟨f - 1, by omega⟩
          rw [f4_placeFrom_L19, if_neg (nI_nlt (by omega) (by omega))]
          by_cases cM : M ≤ m
          · rw [if_pos (nI_le cM (by omega))]
            refine ⟨0, man, rfl, Or.inl ⟨rfl, fun _ _ => rfl, fun b hb hu => ?_⟩⟩
            have := hno b hb hu
            have := usd_at (a := b) hin
            omega
          · rw [if_neg (nI_ge (by omega) (by omega))]
            have cjs := cj_loop N (m := m) hn hin (by omega) hAg (man := man) (a := a) (fun j hj => ⟨h3 j hj, hai j hj⟩) i 0 N (by omega) (by omega)
            rw [nI_0] at cjs
            have next : (∀ b, Cpl n A i a b → usd b n ≤ M → b i ≠ m) → ∀ b, Cpl n A i a b → usd b n ≤ M → m + 1 ≤ b i := fun h b hb hu => by
              have := hno b hb hu
              have := h b hb hu
              omega
            unfold f4_canJoin
            rcases cjs with ⟨k1, k2⟩ | ⟨k1, k2⟩
            · have hj : cjn A a i m := fun j h1 h2 => k1 j (Nat.zero_le _) h1 h2
              have hup := vpr_up h4 (by omega) hj
              have eu : (if nI (usd a i) < nI (m + 1) then nI (m + 1) else nI (usd a i)) = nI (usd (upN a i m) (i + 1)) := by
                rw [usd_up]
                by_cases z : usd a i < m + 1
                · rw [if_pos z, if_pos (nI_lt z (by omega))]
                · rw [if_neg z, if_neg (nI_nlt (by omega) (by omega))]
              obtain ⟨r, man', e1, e2⟩ := ih (i + 1) (upN a i m) (upd man i (nI m)) hin (by omega) (fun j hj => by
                by_cases z : j = i
                · subst z
                  rw [pk_us, upN_s]
                · rw [pk_un z, upN_n z]
                  exact h3 j (by omega)) hup (by rw [usd_up]; split <;> omega)
              rw [k2, ob1_k, if_neg (by decide), x_gi (by omega) (by omega), cl_nI (by omega), nI_1, nI_1, eu, e1, ob2_k]
              rcases e2 with ⟨rfl, e3, e4⟩ | ⟨rfl, b, e3, e4⟩
              · rw [if_pos rfl]
                have e3' : ∀ j, j < i → man' j = man j := fun j hj => by rw [e3 j (by omega), pk_un (by omega)]
                obtain ⟨r, man'', g1, g2⟩ := ihk (m + 1) f man' (by omega) (by omega) (fun j hj => by rw [e3' j hj]; exact h3 j hj) (next (fun b hb hu z => e4 b (by rw [← z]; exact Cpl_up.mpr hb) hu))
                refine ⟨r, man'', g1, ?_⟩
                rcases g2 with ⟨g2, g3, g4⟩ | g2
                · exact Or.inl ⟨g2, fun j hj => by rw [g3 j hj, e3' j hj], g4⟩
                · exact Or.inr g2
              · rw [if_neg (by decide)]
                refine ⟨1, man', rfl, Or.inr ⟨rfl, b, ?_, e4⟩⟩
                obtain ⟨f1, f2, f3⟩ := e3
                have bi : b i = m := by rw [f1.1 i (by omega), upN_s]
                have bC : Cpl n A i a b := Cpl_up.mp (by rw [bi]; exact f1)
                refine ⟨bC, f2, fun b' hb' hu' => ?_⟩
                by_cases z : b' i = m
                · exact f3 b' (by rw [← z]; exact Cpl_up.mpr hb') hu'
                · have := hno b' hb' hu'
                  exact Or.inr ⟨i, hin, fun j hj => by rw [bC.1 j hj, hb'.1 j hj], by omega⟩
            · rw [k2, ob1_k, if_pos rfl, nI_1]
              exact ihk (m + 1) f man (by omega) (by omega) h3 (next (fun b hb hu z => k1 (fun x _ h1 h2 => by
                have := (Cpl_at hin hb).2
                rw [z] at this
                exact this x h1 h2)))
      have L0 := L (usd a i + 1) 0 N man (by omega) (by omega) h3 (fun _ _ _ => Nat.zero_le _)
      rw [nI_0] at L0
      exact L0
