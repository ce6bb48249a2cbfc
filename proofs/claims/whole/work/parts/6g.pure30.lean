/-! the reference: all ways in order, the first of the best -/
def bUp (n : Nat) (S : (Nat → Nat) → Prop) (B : Nat) (bm : Nat → Int32) (B' : Nat) (bm' : Nat → Int32) : Prop := (B' = B ∧ (∀ j, j < n → bm' j = bm j) ∧ ∀ b, S b → B ≤ usd b n) ∨ (B' < B ∧ ∃ b0, S b0 ∧ usd b0 n = B' ∧ (∀ j, j < n → bm' j = nI (b0 j)) ∧ ∀ b, S b → B' ≤ usd b n ∧ (usd b n = B' → lexN n b0 b))
theorem bUp_comp {n : Nat} {S T Z : (Nat → Nat) → Prop} {B B1 B2 : Nat} {bm bm1 bm2 : Nat → Int32} (h1 : bUp n S B bm B1 bm1) (h2 : bUp n T B1 bm1 B2 bm2) (hl : ∀ b c, S b → T c → lexN n b c) (hZ : ∀ b, Z b ↔ (S b ∨ T b)) : bUp n Z B bm B2 bm2 := by
  rcases h1 with ⟨rfl, a2, a3⟩ | ⟨a1, b0, a2, a3, a4, a5⟩
  · rcases h2 with ⟨rfl, c2, c3⟩ | ⟨c1, b1, c2, c3, c4, c5⟩
    · exact Or.inl ⟨rfl, fun j hj => by rw [c2 j hj, a2 j hj], fun b hb => ((hZ b).mp hb).elim (a3 b) (c3 b)⟩
    · refine Or.inr ⟨c1, b1, (hZ b1).mpr (Or.inr c2), c3, c4, fun b hb => ?_⟩
      rcases (hZ b).mp hb with z | z
      · have := a3 b z
        exact ⟨by omega, fun h => by omega⟩
      · exact c5 b z
  · rcases h2 with ⟨rfl, c2, c3⟩ | ⟨c1, b1, c2, c3, c4, c5⟩
    · refine Or.inr ⟨a1, b0, (hZ b0).mpr (Or.inl a2), a3, fun j hj => by rw [c2 j hj, a4 j hj], fun b hb => ?_⟩
      rcases (hZ b).mp hb with z | z
      · exact a5 b z
      · exact ⟨c3 b z, fun _ => hl b0 b a2 z⟩
    · refine Or.inr ⟨by omega, b1, (hZ b1).mpr (Or.inr c2), c3, c4, fun b hb => ?_⟩
      rcases (hZ b).mp hb with z | z
      · have := (a5 b z).1
        exact ⟨by omega, fun h => by omega⟩
      · exact c5 b z
theorem m_many (N : Nat) {a : Nat → Nat} {man : Nat → Int32} {q : Nat} (hq : q ≤ 8) (h : ∀ j, j < q → man j = nI (a j) ∧ a j ≤ 8) : ∀ (k j f : Nat), j + k = q → k < f → usd a j ≤ 9 → f9_manyIn_L4 N (nI q) man f (nI (usd a j)) (nI j) = some (nI (usd a q)) := by
  intro k
  induction k with
  | zero =>
    intro j f hj hf hu
    obtain ⟨f, rfl⟩ : ∃ n', f = n' + 1 := ⟨f - 1, by omega⟩
    have e : j = q := by omega
    subst e
    rw [f9_manyIn_L4, if_pos (nI_le (Nat.le_refl _) (by omega))]
  | succ k ih =>
    intro j f hj hf hu
    obtain ⟨f, rfl⟩ : ∃ n', f = n' + 1 := ⟨f - 1, by omega⟩
    obtain ⟨a1, a2⟩ := h j (by omega)
    have ih := ih (j + 1) f (by omega) (by omega) (by rw [usd]; split <;> omega)
    rw [usd] at ih
    rw [f9_manyIn_L4, if_neg (nI_ge (by omega) (by omega)), x_gi (by omega) (by omega), x_gi (by omega) (by omega), cl_nI (by omega), a1, nI_1, nI_1]
    by_cases c : usd a j < a j + 1
    · rw [if_pos c] at ih
      rw [if_neg (nI_ge c (by omega))]
      exact ih
    · rw [if_neg c] at ih
      rw [if_pos (nI_le (by omega) (by omega))]
      exact ih
theorem m_manyIn (N : Nat) (hN : 20 ≤ N) {a : Nat → Nat} {man : Nat → Int32} {q : Nat} (hq : q ≤ 8) (h : ∀ j, j < q → man j = nI (a j) ∧ a j ≤ 8) : f9_manyIn N (nI q) man = some (nI (usd a q)) := by
  have e := m_many N hq h q 0 N (by omega) (by omega) (by rw [usd]; omega)
  rw [usd, nI_0] at e
  unfold f9_manyIn
  rw [e]
  rfl
theorem mb_0 (N : Nat) (p1 : Nat) (hp : p1 ≤ 8) (sd sa man : Nat → Int32) : ∀ (k j f : Nat), j + k = p1 → k < f → f9_mayBe_L4 N (nI p1) sd sa man f 0 (nI j) = some 0 := by
  intro k
  induction k with
  | zero =>
    intro j f hj hf
    obtain ⟨f, rfl⟩ : ∃ n', f = n' + 1 := ⟨f - 1, by omega⟩
    rw [f9_mayBe_L4, if_pos (nI_le (by omega) (by omega))]
  | succ k ih =>
    intro j f hj hf
    obtain ⟨f, rfl⟩ : ∃ n', f = n' + 1 := ⟨f - 1, by omega⟩
    rw [f9_mayBe_L4, if_neg (nI_ge (by omega) (by omega)), if_pos rfl, nI_1]
    exact ih (j + 1) f (by omega) (by omega)
theorem mb_loop (N : Nat) {n i m : Nat} (hn : n ≤ 8) (hi : i < n) (hm : m ≤ 9) {A : Nat → Nat → Prop} {a : Nat → Nat} {man sd sa : Nat → Int32} (hAg : ∀ x y, x < n → y < n → (A x y ∧ f9_isOne N (nI x) (nI y) sd sa = some 1) ∨ (¬ A x y ∧ f9_isOne N (nI x) (nI y) sd sa = some 0)) (ha : ∀ j, j < i → man j = nI (a j) ∧ a j ≤ 8) (hmi : man i = nI m) : ∀ (k j f : Nat), j + k = i → k < f →
    ((∀ x, j ≤ x → x < i → a x = m → A x i) ∧ f9_mayBe_L4 N (nI i) sd sa man f 1 (nI j) = some 1) ∨ (¬ (∀ x, j ≤ x → x < i → a x = m → A x i) ∧ f9_mayBe_L4 N (nI i) sd sa man f 1 (nI j) = some 0) := by
  intro k
  induction k with
  | zero =>
    intro j f hj hf
    obtain ⟨f, rfl⟩ : ∃ n', f = n' + 1 := ⟨f - 1, by omega⟩
    exact Or.inl ⟨fun x h1 h2 => by omega, by rw [f9_mayBe_L4, if_pos (nI_le (by omega) (by omega))]⟩
  | succ k ih =>
    intro j f hj hf
    obtain ⟨f, rfl⟩ : ∃ n', f = n' + 1 := ⟨f - 1, by omega⟩
    obtain ⟨a1, a2⟩ := ha j (by omega)
    rw [f9_mayBe_L4, if_neg (nI_ge (by omega) (by omega)), if_neg (by decide), x_gi (by omega) (by omega), x_gi (by omega) (by omega), cl_nI (by omega), cl_nI (by omega), a1, hmi, nI_1]
    by_cases c : a j = m
    · rw [if_pos (by rw [c])]
      rcases hAg j i (by omega) hi with ⟨g1, g2⟩ | ⟨g1, g2⟩
      · rw [g2, ob1_k, if_neg (by decide)]
        rcases ih (j + 1) f (by omega) (by omega) with ⟨k1, k2⟩ | ⟨k1, k2⟩
        · refine Or.inl ⟨fun x h1 h2 h3 => ?_, k2⟩
          by_cases z : x = j
          · rw [z]; exact g1
          · exact k1 x (by omega) h2 h3
        · exact Or.inr ⟨fun h => k1 (fun x h1 h2 h3 => h x (by omega) h2 h3), k2⟩
      · rw [g2, ob1_k, if_pos rfl]
        exact Or.inr ⟨fun h => g1 (h j (Nat.le_refl _) (by omega) c), mb_0 N i (by omega) sd sa man k (j + 1) f (by omega) (by omega)⟩
    · rw [if_neg (fun h => c ((nI_eq (by omega) (by omega)).mp h))]
      rcases ih (j + 1) f (by omega) (by omega) with ⟨k1, k2⟩ | ⟨k1, k2⟩
      · refine Or.inl ⟨fun x h1 h2 h3 => ?_, k2⟩
        by_cases z : x = j
        · rw [z] at h3
          exact absurd h3 c
        · exact k1 x (by omega) h2 h3
      · exact Or.inr ⟨fun h => k1 (fun x h1 h2 h3 => h x (by omega) h2 h3), k2⟩
theorem m_mayBe (N : Nat) (hN : 20 ≤ N) {n i m : Nat} (hn : n ≤ 8) (hi : i < n) (hm : m ≤ 9) {A : Nat → Nat → Prop} {a : Nat → Nat} {man sd sa : Nat → Int32} (hAg : ∀ x y, x < n → y < n → (A x y ∧ f9_isOne N (nI x) (nI y) sd sa = some 1) ∨ (¬ A x y ∧ f9_isOne N (nI x) (nI y) sd sa = some 0)) (ha : ∀ j, j < i → man j = nI (a j) ∧ a j ≤ 8) (hmi : man i = nI m) : (cjn A a i m ∧ f9_mayBe N (nI i) sd sa man = some 1) ∨ (¬ cjn A a i m ∧ f9_mayBe N (nI i) sd sa man = some 0) := by
  have h := mb_loop N hn hi hm hAg ha hmi i 0 N (by omega) (by omega)
  rw [nI_0] at h
  unfold f9_mayBe
  rcases h with ⟨k1, k2⟩ | ⟨k1, k2⟩
  · exact Or.inl ⟨fun j h1 h2 => k1 j (Nat.zero_le _) h1 h2, by rw [k2, ob1_k, gb_1]⟩
  · exact Or.inr ⟨fun h => k1 (fun j _ h1 h2 => h j h1 h2), by rw [k2, ob1_k, gb_0]⟩
theorem ff_copy (N : Nat) {n : Nat} (hn : n ≤ 8) (x1 r82 : Int32) (k : Nat) (man0 man1 : Nat → Int32) (hk : k < 8) (hm : upd man0 k (man0 k + 1) = man1) (hc : ¬ x1 ≤ r82) : ∀ (w j f : Nat) (bm : Nat → Int32), j + w = n → w < f → ∃ bm', f9_findFewest_L89 N (nI n) x1 (nI k) man0 r82 f (nI j) bm = some bm' ∧ (∀ i, j ≤ i → i < n → bm' i = man1 i) ∧ ∀ i, i < j → bm' i = bm i := by
  intro w
  induction w with
  | zero =>
    intro j f bm hj hf
    obtain ⟨f, rfl⟩ : ∃ n', f = n' + 1 := ⟨f - 1, by omega⟩
    exact ⟨bm, by rw [f9_findFewest_L89, if_pos (nI_le (by omega) (by omega))], fun i h1 h2 => by omega, fun _ _ => rfl⟩
  | succ w ih =>
    intro j f bm hj hf
    obtain ⟨f, rfl⟩ : ∃ n', f = n' + 1 := ⟨f - 1, by omega⟩
    obtain ⟨bm', e1, e2, e3⟩ := ih (j + 1) f (upd bm j (man1 j)) (by omega) (by omega)
    refine ⟨bm', ?_, fun i h1 h2 => ?_, fun i h1 => ?_⟩
    · rw [f9_findFewest_L89, if_neg (nI_ge (by omega) (by omega)), if_neg hc, x_gi (by omega) (by omega), x_gi (by omega) (by omega), cl_nI (by omega), cl_nI (by omega), hm, nI_1]
      exact e1
    · by_cases c : i = j
      · subst c
        rw [e3 i (by omega), pk_us]
      · exact e2 i (by omega) h2
    · rw [e3 i (by omega), pk_un (by omega)]
def sbC : Nat → Nat
  | 0 => 0
  | e + 1 => 9 * (1 + sbC e)
theorem bUp_le {n : Nat} {S : (Nat → Nat) → Prop} {B B' : Nat} {bm bm' : Nat → Int32} (h : bUp n S B bm B' bm') : B' ≤ B := by
  rcases h with ⟨h, -⟩ | ⟨h, -⟩ <;> omega
theorem nI_m1p (m : Nat) : nI m + (-1 : Int32) + 1 = nI m := by
  rw [Int32.add_assoc, show (-1 : Int32) + 1 = 0 by decide, Int32.add_zero]
theorem ff_loop (N : Nat) (hN : 20 ≤ N) {n : Nat} (hn : n ≤ 8) {A : Nat → Nat → Prop} {sd sa : Nat → Int32} (hAg : ∀ x y, x < n → y < n → (A x y ∧ f9_isOne N (nI x) (nI y) sd sa = some 1) ∨ (¬ A x y ∧ f9_isOne N (nI x) (nI y) sd sa = some 0)) (s k : Nat) (hk : k < n)
    (hsub : ∀ (m : Nat) (a : Nat → Nat) (B : Nat) (man bm : Nat → Int32), m ≤ usd a k → vpr A a k → cjn A a k m → B ≤ 9 → (∀ j, j < k → man j = nI (a j)) → man k = nI m + (-1 : Int32) → ∃ (c B' : Nat) (man' bm' : Nat → Int32), c ≤ s ∧ (∀ j, j < k + 1 → man' j = upd man k (nI m) j) ∧ bUp n (Cpl n A (k + 1) (upN a k m)) B bm B' bm' ∧ ∀ f, f9_findFewest_L25 N (nI n) sd sa (f + c) (nI B) (nI k) man bm = f9_findFewest_L25 N (nI n) sd sa f (nI B') (nI k) man' bm') (hs : 1 ≤ s) :
    ∀ (w m : Nat) (a : Nat → Nat) (B : Nat) (man bm : Nat → Int32), m + w = usd a k + 1 → vpr A a k → B ≤ 9 → (∀ j, j < k → man j = nI (a j)) → man k = nI m + (-1 : Int32) →
    ∃ (c B' : Nat) (man' bm' : Nat → Int32), c ≤ (w + 1) * s ∧ (∀ j, j < k → man' j = man j) ∧ bUp n (fun b => Cpl n A k a b ∧ m ≤ b k) B bm B' bm' ∧ ∀ f, f9_findFewest_L25 N (nI n) sd sa (f + c) (nI B) (nI k) man bm = f9_findFewest_L25 N (nI n) sd sa f (nI B') (nI k + (-1 : Int32)) man' bm' := by
  intro w
  induction w with
  | zero =>
    intro m a B man bm hm hv hB h3 hmk
    have hu := usd_le k hv
    have hai : ∀ j, j < k → a j ≤ 8 := fun j hj => by
      have := usd_at (a := a) hj
      omega
    have hmk' : man k + 1 = nI m := by rw [hmk, nI_m1p]
    refine ⟨1, B, upd man k (nI m), bm, by omega, fun j hj => pk_un (by omega), Or.inl ⟨rfl, fun _ _ => rfl, fun b hb => ?_⟩, fun f => ?_⟩
    · have := (Cpl_at hk hb.1).1
      have := hb.2
      omega
    · rw [f9_findFewest_L25, if_neg (nI_pos (by omega)), x_gi (by omega) (by omega), x_gi (by omega) (by omega), x_gi (by omega) (by omega), cl_nI (by omega), hmk', m_manyIn N hN (a := a) (by omega) (fun j hj => ⟨by rw [pk_un (by omega)]; exact h3 j hj, hai j hj⟩), ob1_k, pk_us, if_neg (nI_ge (by omega) (by omega))]
  | succ w ih =>
    intro m a B man bm hm hv hB h3 hmk
    have hu := usd_le k hv
    have hai : ∀ j, j < k → a j ≤ 8 := fun j hj => by
      have := usd_at (a := a) hj
      omega
    have hmk' : man k + 1 = nI m := by rw [hmk, nI_m1p]
    have h3' : ∀ j, j < k → upd man k (nI m) j = nI (a j) ∧ a j ≤ 8 := fun j hj => ⟨by rw [pk_un (by omega)]; exact h3 j hj, hai j hj⟩
    have hmul : (w + 1 + 1) * s = s + (w + 1) * s := by rw [Nat.succ_mul, Nat.add_comm]
    rcases m_mayBe N hN hn hk (show m ≤ 9 by omega) hAg h3' pk_us with ⟨c1, c2⟩ | ⟨c1, c2⟩
    · obtain ⟨c, B1, man1, bm1, k1, k2, k3, k4⟩ := hsub m a B man bm (by omega) hv c1 hB h3 hmk
      have hB1 := bUp_le k3
      obtain ⟨c', B2, man2, bm2, l1, l2, l3, l4⟩ := ih (m + 1) a B1 man1 bm1 (by omega) hv (by omega) (fun j hj => by rw [k2 j (by omega), pk_un (by omega)]; exact h3 j hj) (by rw [k2 k (by omega), pk_us, pk_m1])
      refine ⟨c' + c, B2, man2, bm2, by omega, fun j hj => by rw [l2 j hj, k2 j (by omega), pk_un (by omega)], bUp_comp k3 l3 (fun b b' hb hb' => ?_) (fun b => ?_), fun f => ?_⟩
      · have e1 : b k = m := by rw [hb.1 k (by omega), upN_s]
        refine Or.inr ⟨k, hk, fun j hj => ?_, ?_⟩
        · rw [hb.1 j (by omega), upN_n (by omega), hb'.1.1 j hj]
        · have := hb'.2
          omega
      · constructor
        · rintro ⟨z1, z2⟩
          by_cases z : b k = m
          · exact Or.inl (by rw [← z]; exact Cpl_up.mpr z1)
          · exact Or.inr ⟨z1, by omega⟩
        · rintro (z | ⟨z1, z2⟩)
          · have e1 : b k = m := by rw [z.1 k (by omega), upN_s]
            exact ⟨Cpl_up.mp (by rw [e1]; exact z), by omega⟩
          · exact ⟨z1, by omega⟩
      · rw [← Nat.add_assoc, k4]
        exact l4 f
    · obtain ⟨c', B2, man2, bm2, l1, l2, l3, l4⟩ := ih (m + 1) a B (upd man k (nI m)) bm (by omega) hv hB (fun j hj => (h3' j hj).1) (by rw [pk_us, pk_m1])
      refine ⟨c' + 1, B2, man2, bm2, by omega, fun j hj => by rw [l2 j hj, pk_un (by omega)], ?_, fun f => ?_⟩
      · have eq : (fun b => Cpl n A k a b ∧ m ≤ b k) = (fun b => Cpl n A k a b ∧ m + 1 ≤ b k) := by
          funext b
          apply propext
          constructor
          · rintro ⟨z1, z2⟩
            refine ⟨z1, ?_⟩
            by_cases z : b k = m
            · have := (Cpl_at hk z1).2
              rw [z] at this
              exact absurd this c1
            · omega
          · exact fun z => ⟨z.1, by have := z.2; omega⟩
        rw [eq]
        exact l3
      · rw [← Nat.add_assoc, f9_findFewest_L25, if_neg (nI_pos (by omega)), x_gi (by omega) (by omega), x_gi (by omega) (by omega), x_gi (by omega) (by omega), cl_nI (by omega), hmk', m_manyIn N hN (a := a) (by omega) h3', ob1_k, pk_us, if_pos (nI_le (by omega) (by omega)), c2, ob1_k, if_pos rfl]
        exact l4 f
theorem ff_leaf (N : Nat) (hN : 20 ≤ N) {n : Nat} (hn : n ≤ 8) {A : Nat → Nat → Prop} {sd sa : Nat → Int32} (hAg : ∀ x y, x < n → y < n → (A x y ∧ f9_isOne N (nI x) (nI y) sd sa = some 1) ∨ (¬ A x y ∧ f9_isOne N (nI x) (nI y) sd sa = some 0)) (k : Nat) (hk : k + 1 = n) (m : Nat) (a : Nat → Nat) (B : Nat) (man bm : Nat → Int32) (hm : m ≤ usd a k) (hv : vpr A a k) (hj : cjn A a k m) (hB : B ≤ 9) (h3 : ∀ j, j < k → man j = nI (a j)) (hmk : man k = nI m + (-1 : Int32)) :
    ∃ (c B' : Nat) (man' bm' : Nat → Int32), c ≤ 1 ∧ (∀ j, j < k + 1 → man' j = upd man k (nI m) j) ∧ bUp n (Cpl n A (k + 1) (upN a k m)) B bm B' bm' ∧ ∀ f, f9_findFewest_L25 N (nI n) sd sa (f + c) (nI B) (nI k) man bm = f9_findFewest_L25 N (nI n) sd sa f (nI B') (nI k) man' bm' := by
  have hu := usd_le k hv
  have hai : ∀ j, j < k → a j ≤ 8 := fun j hj => by
    have := usd_at (a := a) hj
    omega
  have hmk' : man k + 1 = nI m := by rw [hmk, nI_m1p]
  have h3' : ∀ j, j < k → upd man k (nI m) j = nI (a j) ∧ a j ≤ 8 := fun j hj => ⟨by rw [pk_un (by omega)]; exact h3 j hj, hai j hj⟩
  have h3n : ∀ j, j < n → upd man k (nI m) j = nI (upN a k m j) ∧ upN a k m j ≤ 8 := fun j hj => by
    by_cases z : j = k
    · rw [z, pk_us, upN_s]
      exact ⟨rfl, by omega⟩
    · rw [upN_n z]
      exact h3' j (by omega)
  have hup := vpr_up hv hm hj
  rw [hk] at hup
  have hun := usd_le n hup
  rcases m_mayBe N hN hn (show k < n by omega) (show m ≤ 9 by omega) hAg h3' pk_us with ⟨c1, c2⟩ | ⟨c1, c2⟩
  · have body : ∀ f, f9_findFewest_L25 N (nI n) sd sa (f + 1) (nI B) (nI k) man bm = (ob1 (f9_findFewest_L89 N (nI n) (nI B) (nI k) man (nI (usd (upN a k m) n)) N (0 : Int32) bm) fun v_bestMan_e89 => if nI B ≤ nI (usd (upN a k m) n) then f9_findFewest_L25 N (nI n) sd sa f (nI B) (nI k) (upd man k (nI m)) v_bestMan_e89 else f9_findFewest_L25 N (nI n) sd sa f (nI (usd (upN a k m) n)) (nI k) (upd man k (nI m)) v_bestMan_e89) := fun f => by
      rw [f9_findFewest_L25, if_neg (nI_pos (by omega)), x_gi (by omega) (by omega), x_gi (by omega) (by omega), x_gi (by omega) (by omega), cl_nI (by omega), hmk', m_manyIn N hN (a := a) (by omega) h3', ob1_k, pk_us, if_pos (nI_le hm (by omega)), c2, ob1_k, if_neg (by decide), nI_pr (by omega), if_pos (by rw [show k = n - 1 by omega]), m_manyIn N hN (a := upN a k m) hn h3n, ob1_k]
    by_cases cB : B ≤ usd (upN a k m) n
    · have cp : f9_findFewest_L89 N (nI n) (nI B) (nI k) man (nI (usd (upN a k m) n)) N (0 : Int32) bm = some bm := by
        obtain ⟨N', rfl⟩ : ∃ n', N = n' + 1 := ⟨N - 1, by omega⟩
        rw [f9_findFewest_L89, if_neg (by rw [t_le, t_0, t_nI (by omega)]; omega), if_pos (nI_le cB (by omega))]
      refine ⟨1, B, upd man k (nI m), bm, Nat.le_refl _, fun _ _ => rfl, Or.inl ⟨rfl, fun _ _ => rfl, fun b hb => ?_⟩, fun f => ?_⟩
      · rw [usd_cong (b := upN a k m) n (fun j hj => hb.1 j (by omega))]
        exact cB
      · rw [body f, cp, ob1_k, if_pos (nI_le cB (by omega))]
    · obtain ⟨bm', e1, e2, -⟩ := ff_copy N hn (nI B) (nI (usd (upN a k m) n)) k man (upd man k (nI m)) (by omega) (by rw [hmk']) (nI_ge (by omega) (by omega)) n 0 N bm (by omega) (by omega)
      rw [nI_0] at e1
      refine ⟨1, usd (upN a k m) n, upd man k (nI m), bm', Nat.le_refl _, fun _ _ => rfl, Or.inr ⟨by omega, upN a k m, ⟨fun _ _ => rfl, hup⟩, rfl, fun j hj => by rw [e2 j (Nat.zero_le _) hj]; exact (h3n j hj).1, fun b hb => ?_⟩, fun f => ?_⟩
      · have eq := usd_cong (a := b) (b := upN a k m) n (fun j hj => hb.1 j (by omega))
        exact ⟨by omega, fun _ => Or.inl (fun j hj => (hb.1 j (by omega)).symm)⟩
      · rw [body f, e1, ob1_k, if_neg (nI_ge (by omega) (by omega))]
  · exact absurd hj c1
theorem ff_tree (N : Nat) (hN : 20 ≤ N) {n : Nat} (hn : n ≤ 8) {A : Nat → Nat → Prop} {sd sa : Nat → Int32} (hAg : ∀ x y, x < n → y < n → (A x y ∧ f9_isOne N (nI x) (nI y) sd sa = some 1) ∨ (¬ A x y ∧ f9_isOne N (nI x) (nI y) sd sa = some 0)) : ∀ (e k : Nat), k + e + 1 = n → ∀ (w m : Nat) (a : Nat → Nat) (B : Nat) (man bm : Nat → Int32), m + w = usd a k + 1 → vpr A a k → B ≤ 9 → (∀ j, j < k → man j = nI (a j)) → man k = nI m + (-1 : Int32) →
    ∃ (c B' : Nat) (man' bm' : Nat → Int32), c ≤ (w + 1) * (1 + sbC e) ∧ (∀ j, j < k → man' j = man j) ∧ bUp n (fun b => Cpl n A k a b ∧ m ≤ b k) B bm B' bm' ∧ ∀ f, f9_findFewest_L25 N (nI n) sd sa (f + c) (nI B) (nI k) man bm = f9_findFewest_L25 N (nI n) sd sa f (nI B') (nI k + (-1 : Int32)) man' bm' := by
  intro e
  induction e with
  | zero =>
    intro k hk
    exact ff_loop N hN hn hAg 1 k (by omega) (fun m a B man bm h1 h2 h3 h4 h5 h6 => ff_leaf N hN hn hAg k (by omega) m a B man bm h1 h2 h3 h4 h5 h6) (Nat.le_refl _)
  | succ e ihe =>
    intro k hk
    refine ff_loop N hN hn hAg (1 + sbC (e + 1)) k (by omega) (fun m a B man bm hm hv hj hB h3 hmk => ?_) (by omega)
    have hu := usd_le k hv
    have hai : ∀ j, j < k → a j ≤ 8 := fun j hj => by
      have := usd_at (a := a) hj
      omega
    have hmk' : man k + 1 = nI m := by rw [hmk, nI_m1p]
    have h3' : ∀ j, j < k → upd man k (nI m) j = nI (a j) ∧ a j ≤ 8 := fun j hj => ⟨by rw [pk_un (by omega)]; exact h3 j hj, hai j hj⟩
    have hup := vpr_up hv hm hj
    have hun := usd_le (k + 1) hup
    rcases m_mayBe N hN hn (show k < n by omega) (show m ≤ 9 by omega) hAg h3' pk_us with ⟨c1, c2⟩ | ⟨c1, c2⟩
    · obtain ⟨c, B1, man1, bm1, k1, k2, k3, k4⟩ := ihe (k + 1) (by omega) (usd (upN a k m) (k + 1) + 1) 0 (upN a k m) B (upd (upd man k (nI m)) (k + 1) (-1)) bm (by omega) hup hB (fun j hj => by
        rw [pk_un (by omega)]
        by_cases z : j = k
        · rw [z, pk_us, upN_s]
        · rw [upN_n z]
          exact (h3' j (by omega)).1) (by rw [pk_us, nI_0, Int32.zero_add])
      refine ⟨c + 1, B1, man1, bm1, ?_, fun j hj => by rw [k2 j hj, pk_un (by omega)], ?_, fun f => ?_⟩
      · rw [sbC]
        have : (usd (upN a k m) (k + 1) + 1 + 1) * (1 + sbC e) ≤ 9 * (1 + sbC e) := Nat.mul_le_mul_right _ (by omega)
        omega
      · have eq : (fun b => Cpl n A (k + 1) (upN a k m) b ∧ 0 ≤ b (k + 1)) = Cpl n A (k + 1) (upN a k m) := by
          funext b
          exact propext ⟨fun z => z.1, fun z => ⟨z, Nat.zero_le _⟩⟩
        rw [← eq]
        exact k3
      · rw [← Nat.add_assoc, f9_findFewest_L25, if_neg (nI_pos (by omega)), x_gi (by omega) (by omega), x_gi (by omega) (by omega), x_gi (by omega) (by omega), cl_nI (show k < 2147483648 by omega), hmk', m_manyIn N hN (a := a) (by omega) h3', ob1_k, pk_us, if_pos (nI_le hm (by omega)), c2, ob1_k, if_neg (by decide), nI_pr (by omega), if_neg (fun q => by have := (nI_eq (by omega) (by omega)).mp q; omega), nI_1, x_gi (by omega) (by omega), cl_nI (by omega), k4 f, pk_m1]
    · exact absurd hj c1
def idW : Nat → Nat := fun j => j
theorem idW_usd : ∀ k, usd idW k = k := by
  intro k
  induction k with
  | zero => rfl
  | succ k ih =>
    rw [usd, ih]
    exact if_pos (Nat.lt_succ_self k)
theorem idW_ok (A : Nat → Nat → Prop) : ∀ k, vpr A idW k := by
  intro k
  induction k with
  | zero => exact trivial
  | succ k ih =>
    refine ⟨ih, ?_, fun j h1 h2 => ?_⟩
    · rw [idW_usd]
      exact Nat.le_refl _
    · have : j = k := h2
      omega
theorem sbC7 : ∀ e, e ≤ 7 → sbC e ≤ 5380839 := by
  intro e he
  rcases (show e = 0 ∨ e = 1 ∨ e = 2 ∨ e = 3 ∨ e = 4 ∨ e = 5 ∨ e = 6 ∨ e = 7 by omega) with rfl | rfl | rfl | rfl | rfl | rfl | rfl | rfl <;> simp only [sbC] <;> omega
theorem q_fewest (N : Nat) (hN : 20000000 ≤ N) (p1 : Int32) {c : Int32} {d g : Nat → Int32} {sm : Int32} {sd sa : Nat → Int32} (h : RLn c d g sm sd sa) (man0 man bm : Nat → Int32) :
    ∃ r man0' man' bm', f8_fewest N p1 c man0 d g = some (r, man0') ∧ f9_fewest N p1 sm sd sa man bm = some (r, man', bm') := by
  obtain ⟨n, hn, rfl, rfl, hE⟩ := h
  have hE' : ∀ j, j < n → 0 ≤ (sd j).toInt ∧ (sd j).toInt ≤ 500 ∧ 0 ≤ (sa j).toInt ∧ (sa j).toInt ≤ 200 := fun j hj => (hE j hj).2.2
  -- the class
  have K : ∀ (w M f : Nat) (man0 : Nat → Int32), M + w = n → w < f → (∀ b, Cpl n (agI sd sa) 0 idW b → M ≤ usd b n) → ∃ (M' : Nat) (man0' : Nat → Int32) (b : Nat → Nat), f4_leastMen_L2 N (nI n) d g f (nI M) man0 = some (nI M', man0') ∧ M' ≤ n ∧ FstC n (agI sd sa) 0 idW M' b ∧ (∀ j, j < n → man0' j = nI (b j)) ∧ ∀ b, Cpl n (agI sd sa) 0 idW b → M' ≤ usd b n := by
    intro w
    induction w with
    | zero =>
      intro M f man0 hM hf hmin
      obtain ⟨f, rfl⟩ : ∃ n', f = n' + 1 := ⟨f - 1, by omega⟩
      obtain ⟨r, man0', e1, e2⟩ := x_place N (by omega) hn (show M ≤ 8 by omega) (fun x y hx hy => x_agree N hn hx hy hE) 10 0 idW man0 (by omega) (by omega) (fun j hj => by omega) trivial (Nat.zero_le _)
      rw [usd, nI_0] at e1
      rw [f4_leastMen_L2, if_neg (by rw [t_lt, t_8, t_nI (by omega)]; omega), e1, ob2_k]
      rcases e2 with ⟨rfl, -, e3⟩ | ⟨rfl, b, e3, e4⟩
      · refine absurd ?_ (e3 idW ⟨fun _ _ => rfl, idW_ok _ n⟩)
        rw [idW_usd]
        omega
      · rw [if_neg (by decide)]
        exact ⟨M, man0', b, rfl, by omega, e3, e4, hmin⟩
    | succ w ih =>
      intro M f man0 hM hf hmin
      obtain ⟨f, rfl⟩ : ∃ n', f = n' + 1 := ⟨f - 1, by omega⟩
      obtain ⟨r, man0', e1, e2⟩ := x_place N (by omega) hn (show M ≤ 8 by omega) (fun x y hx hy => x_agree N hn hx hy hE) 10 0 idW man0 (by omega) (by omega) (fun j hj => by omega) trivial (Nat.zero_le _)
      rw [usd, nI_0] at e1
      rw [f4_leastMen_L2, if_neg (by rw [t_lt, t_8, t_nI (by omega)]; omega), e1, ob2_k]
      rcases e2 with ⟨rfl, -, e3⟩ | ⟨rfl, b, e3, e4⟩
      · rw [if_pos rfl, nI_1]
        refine ih (M + 1) f man0' (by omega) (by omega) (fun b hb => ?_)
        have := e3 b hb
        omega
      · rw [if_neg (by decide)]
        exact ⟨M, man0', b, rfl, by omega, e3, e4, hmin⟩
  obtain ⟨M, man0', b, a1, a2, a3, a4, a5⟩ := K n 0 N man0 (by omega) (by omega) (fun _ _ => Nat.zero_le _)
  rw [nI_0] at a1
  -- the reference
  have R : ∃ (man' bm' : Nat → Int32), f9_findFewest N (nI n) sd sa man bm = some (nI M, man', bm') ∧ ∀ j, j < n → bm' j = nI (b j) := by
    unfold f9_findFewest
    by_cases z : n = 0
    · subst z
      exact ⟨man, bm, by rw [if_pos nI_0, show M = 0 by omega]; rfl, fun j hj => by omega⟩
    · obtain ⟨c, B', man', bm', c1, c2, c3, c4⟩ := ff_tree N (by omega) hn (A := agI sd sa) (fun x y hx hy => m_isOne N hn hx hy hE') (n - 1) 0 (by omega) 1 0 idW (n + 1) (upd man 0 (-1)) bm (by rw [usd]) trivial (by omega) (fun j hj => by omega) (by rw [pk_us, nI_0, Int32.zero_add])
      have sb := sbC7 (n - 1) (by omega)
      have c4 := c4 (N - c - 1 + 1)
      rw [show N - c - 1 + 1 + c = N by omega, nI_0, Int32.zero_add, f9_findFewest_L25, if_pos (by decide)] at c4
      rw [if_neg (fun q => by have := (nI_eq (a := n) (b := 0) (by omega) (by omega)).mp q; omega), gi_ok (i := 0) (by decide) (by decide), n_0, nI_1, c4, ob3_k]
      rcases c3 with ⟨-, -, c3⟩ | ⟨-, b0, d1, d2, d3, d4⟩
      · have := c3 idW ⟨⟨fun _ _ => rfl, idW_ok _ n⟩, Nat.zero_le _⟩
        rw [idW_usd] at this
        omega
      · have u1 := (d4 b ⟨a3.1, Nat.zero_le _⟩).1
        have u2 := a5 b0 d1.1
        have u3 := a3.2.1
        have eM : B' = M := by omega
        have l1 := (d4 b ⟨a3.1, Nat.zero_le _⟩).2 (by omega)
        have l2 := a3.2.2 b0 d1.1 (by omega)
        refine ⟨man', bm', by rw [eM], fun j hj => ?_⟩
        rw [d3 j hj, lexN_anti l1 l2 j hj]
  obtain ⟨man', bm', r1, r2⟩ := R
  unfold f8_fewest f9_fewest f8_fewest_J19 f4_leastMen
  rw [a1, m_in, t_m1, x_has N p1 hn]
  simp only [ob1_k, ob2_k, b_z, ite_not]
  rw [r1]
  simp only [ob3_k]
  have tn : (nI n - 1).toInt = (n : Int) - 1 := by rw [t_sub (by rw [t_nI (by omega), t_1]; omega) (by rw [t_nI (by omega), t_1]; omega), t_nI (by omega), t_1]
  rw [tn]
  by_cases c1 : p1 = -1
  · subst c1
    rw [if_pos rfl, if_pos rfl, if_pos (by rw [t_m1]; omega), if_pos rfl]
    exact ⟨_, _, _, _, rfl, rfl⟩
  · have c1' : p1.toInt ≠ -1 := fun q => c1 (by rw [t_eq, t_m1]; exact q)
    rw [if_neg c1, if_neg c1, if_neg c1]
    by_cases c2 : 0 ≤ p1.toInt ∧ p1.toInt < (n : Int)
    · obtain ⟨i, hi, rfl⟩ := nI_nat c2.1 c2.2
      rw [if_pos c2, if_pos (by omega), x_gi (by omega) (by omega), x_gi (by omega) (by omega), cl_nI (by omega), a4 i hi, r2 i hi]
      exact ⟨_, _, _, _, rfl, rfl⟩
    · rw [if_neg c2, if_neg (by omega)]
      exact ⟨_, _, _, _, rfl, rfl⟩
