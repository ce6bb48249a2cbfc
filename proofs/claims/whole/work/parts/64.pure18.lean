/-! spans: the reference's rows -/
def fsA (D : Nat) (P : Nat) (R : Nat → Nat → Int32 × Int32) (L M : Nat → Int32) : Prop := ∀ d p, 1 ≤ d → d ≤ D → p < P → (L (7 * d + p), M (7 * d + p)) = R d p
theorem fs_cellL (N : Nat) {P d p : Nat} (hP : P ≤ 7) (hp : p < P) (h2 : 2 ≤ d) (hd : d ≤ 40) {mp : Nat → Int32} (hm : mp 0 = nI P) (L M : Nat → Int32) (mw : Nat → Int32) : ∀ (k q n : Nat), q + k = P → k < n →
    f9_findSpans_L44 N mp mw (nI d) (nI p) L M n (spF (mw p) p (fun q => L (7 * (d - 1) + q)) (fun q => M (7 * (d - 1) + q)) q).1 (spF (mw p) p (fun q => L (7 * (d - 1) + q)) (fun q => M (7 * (d - 1) + q)) q).2 (nI q) = some (spF (mw p) p (fun q => L (7 * (d - 1) + q)) (fun q => M (7 * (d - 1) + q)) P) := by
  intro k
  induction k with
  | zero =>
    intro q n hq hn
    have e : q = P := by omega
    subst e
    obtain ⟨n, rfl⟩ : ∃ n', n = n' + 1 := ⟨n - 1, by omega⟩
    rw [f9_findSpans_L44, gi_ok (i := 0) (by decide) (by decide), n_0, hm, if_pos (nI_le (Nat.le_refl _) (by omega))]
  | succ k ih =>
    intro q n hq hn
    obtain ⟨n, rfl⟩ : ∃ n', n = n' + 1 := ⟨n - 1, by omega⟩
    have ih := ih (q + 1) n (by omega) (by omega)
    rw [spF] at ih
    rw [f9_findSpans_L44, gi_ok (i := 0) (by decide) (by decide), n_0, hm, if_neg (nI_ge (by omega) (by omega)), if_neg (by rw [t_le, t_nI (by omega), t_1]; omega), nI_pr (by omega), sp_ix N (by omega) (by omega), ob1_k, m_isStep N (by omega) (by omega), ob1_k]
    unfold f9_findSpans_J121
    by_cases c : spS (mw p) p q
    · rw [if_pos c] at ih
      rw [if_pos c, if_neg (by decide), x_gi (by omega) (by omega), cl_nI (by omega)]
      simp only [x_gi (show 7 * (d - 1) + q < 287 by omega) (show 287 < 100000 by omega)]
      rw [nI_1]
      by_cases e : M (7 * (d - 1) + q) = -1
      · rw [if_pos e] at ih ⊢
        exact ih
      · rw [if_neg e] at ih ⊢
        have hy : ∀ (y : Int32) (K : Int32 → Option (Int32 × Int32)), (if M (7 * (d - 1) + q) ≤ y then K y else K (M (7 * (d - 1) + q))) = K (if y < M (7 * (d - 1) + q) then M (7 * (d - 1) + q) else y) := fun y K => by
          by_cases g : y < M (7 * (d - 1) + q)
          · rw [if_pos g, if_neg (fun h => by rw [t_lt] at g; rw [t_le] at h; omega)]
          · rw [if_neg g, if_pos (by rw [t_lt] at g; rw [t_le]; omega)]
        by_cases g : (spF (mw p) p (fun q => L (7 * (d - 1) + q)) (fun q => M (7 * (d - 1) + q)) q).1 = -1
        · rw [if_pos g] at ih ⊢
          exact (hy _ (fun y => f9_findSpans_L44 N mp mw (nI d) (nI p) L M n (L (7 * (d - 1) + q)) y (nI (q + 1)))).trans ih
        · rw [if_neg g] at ih ⊢
          by_cases f : L (7 * (d - 1) + q) < (spF (mw p) p (fun q => L (7 * (d - 1) + q)) (fun q => M (7 * (d - 1) + q)) q).1
          · rw [if_pos f] at ih
            rw [if_neg (fun h => by rw [t_lt] at f; rw [t_le] at h; omega)]
            exact (hy _ (fun y => f9_findSpans_L44 N mp mw (nI d) (nI p) L M n (L (7 * (d - 1) + q)) y (nI (q + 1)))).trans ih
          · rw [if_neg f] at ih
            rw [if_pos (by rw [t_lt] at f; rw [t_le]; omega)]
            exact (hy _ (fun y => f9_findSpans_L44 N mp mw (nI d) (nI p) L M n (spF (mw p) p (fun q => L (7 * (d - 1) + q)) (fun q => M (7 * (d - 1) + q)) q).1 y (nI (q + 1)))).trans ih
    · rw [if_neg c] at ih
      rw [if_neg c, if_pos rfl, nI_1]
      exact ih
theorem fs_J35 (N : Nat) {P d p : Nat} (hP : P ≤ 7) (hp : p < P) (h1 : 1 ≤ d) (hd : d ≤ 40) (L M mp mr mw : Nat → Int32) (rec : Int32 → (Nat → Int32) → (Nat → Int32) → Option ((Nat → Int32) × (Nat → Int32))) (s0 : Int32) (z : Int32 × Int32) {A B : Nat} (hB : B ≤ 100000) (hz : spOk A B z) (h : f9_findSpans_L44 N mp mw (nI d) (nI p) L M N s0 s0 (0 : Int32) = some z) :
    f9_findSpans_J35 N mp mr mw (nI d) (nI p) L M rec s0 = rec (nI (p + 1)) (upd L (7 * d + p) (spP z.1 (mr p))) (upd M (7 * d + p) (spP z.2 (mr p))) := by
  unfold f9_findSpans_J35 f9_findSpans_J183
  rcases hz with rfl | ⟨a, b, h2, h3, h4, rfl⟩
  · rw [h, ob2_k, sp_ix N hd (by omega)]
    simp only [ob1_k]
    rw [if_pos trivial, if_pos trivial, x_gi (by omega) (by omega), x_gi (by omega) (by omega), cl_nI (by omega), nI_1]
    rfl
  · rw [h, ob2_k, sp_ix N hd (by omega)]
    simp only [ob1_k]
    rw [if_neg (nI_nm1 (by omega)), if_neg (nI_nm1 (by omega)), x_gi (by omega) (by omega), x_gi (by omega) (by omega), x_gi (by omega) (by omega), x_gi (by omega) (by omega), cl_nI (by omega), cl_nI (by omega), nI_1]
    unfold spP
    rw [if_neg (nI_nm1 (by omega)), if_neg (nI_nm1 (by omega))]
theorem fs_dayL (N : Nat) (hN : 20 ≤ N) {P : Nat} {mp mr mw : Nat → Int32} (hr : spH P mr) (hm : mp 0 = nI P) {to d : Nat} (hto : to < P) (h1 : 1 ≤ d) (hd : d ≤ 40) : ∀ (k j n : Nat) (L M : Nat → Int32), j + k = P → k < n → fsA (d - 1) P (spR P mr mw to) L M →
    ∃ L' M', f9_findSpans_L10 N (nI to) mp mr mw (nI d) n (nI j) L M = some (L', M') ∧ (∀ p, j ≤ p → p < P → (L' (7 * d + p), M' (7 * d + p)) = spR P mr mw to d p) ∧ (∀ i, (i < 7 * d + j ∨ 7 * d + P ≤ i) → L' i = L i ∧ M' i = M i) := by
  have hP := hr.1
  intro k
  induction k with
  | zero =>
    intro j n L M hj hn hA
    obtain ⟨n, rfl⟩ : ∃ n', n = n' + 1 := ⟨n - 1, by omega⟩
    exact ⟨L, M, by rw [f9_findSpans_L10, gi_ok (i := 0) (by decide) (by decide), n_0, hm, if_pos (nI_le (by omega) (by omega))], fun p h2 h3 => by omega, fun _ _ => ⟨rfl, rfl⟩⟩
  | succ k ih =>
    intro j n L M hj hn hA
    obtain ⟨n, rfl⟩ : ∃ n', n = n' + 1 := ⟨n - 1, by omega⟩
    have hj' : j < P := by omega
    have go : ∀ z : Int32 × Int32, (spP z.1 (mr j), spP z.2 (mr j)) = spR P mr mw to d j →
        ∃ L' M', f9_findSpans_L10 N (nI to) mp mr mw (nI d) n (nI (j + 1)) (upd L (7 * d + j) (spP z.1 (mr j))) (upd M (7 * d + j) (spP z.2 (mr j))) = some (L', M') ∧ (∀ p, j ≤ p → p < P → (L' (7 * d + p), M' (7 * d + p)) = spR P mr mw to d p) ∧ (∀ i, (i < 7 * d + j ∨ 7 * d + P ≤ i) → L' i = L i ∧ M' i = M i) := by
      intro z hz
      obtain ⟨L', M', e1, e2, e3⟩ := ih (j + 1) n (upd L (7 * d + j) (spP z.1 (mr j))) (upd M (7 * d + j) (spP z.2 (mr j))) (by omega) (by omega) (fun e p h2 h3 h4 => by
        rw [pk_un (by omega), pk_un (by omega)]
        exact hA e p h2 h3 h4)
      refine ⟨L', M', e1, fun p h2 h3 => ?_, fun i hi => ?_⟩
      · by_cases g : p = j
        · subst g
          obtain ⟨a1, a2⟩ := e3 (7 * d + p) (Or.inl (by omega))
          rw [a1, a2, pk_us, pk_us]
          exact hz
        · exact e2 p (by omega) h3
      · obtain ⟨a1, a2⟩ := e3 i (by omega)
        rw [a1, a2, pk_un (by omega), pk_un (by omega)]
        exact ⟨rfl, rfl⟩
    rw [f9_findSpans_L10, gi_ok (i := 0) (by decide) (by decide), n_0, hm, if_neg (nI_ge hj' (by omega))]
    by_cases e : d = 1
    · subst e
      have sk : ∀ s0 : Int32, f9_findSpans_L44 N mp mw (nI 1) (nI j) L M N s0 s0 (0 : Int32) = some (s0, s0) := fun s0 => by
        obtain ⟨N', rfl⟩ : ∃ n', N = n' + 1 := ⟨N - 1, by omega⟩
        rw [f9_findSpans_L44, gi_ok (i := 0) (by decide) (by decide), n_0, hm, if_neg (by rw [t_le, t_nI (by omega), t_0]; omega), if_pos (by decide)]
      rw [if_pos one_1]
      by_cases c : j = to
      · subst c
        rw [if_pos rfl, fs_J35 N hP hj' h1 hd L M mp mr mw _ 0 (0, 0) (A := 0) (B := 0) (by omega) (Or.inr ⟨0, 0, by omega, by omega, by omega, rfl⟩) (sk 0)]
        refine go (0, 0) ?_
        rw [spR, if_pos rfl]
        unfold spP
        rw [if_neg (by decide), Int32.zero_add]
      · rw [if_neg (fun q => c ((nI_eq (by omega) (by omega)).mp q)), fs_J35 N hP hj' h1 hd L M mp mr mw _ (-1) (-1, -1) (A := 0) (B := 0) (by omega) (Or.inl rfl) (sk (-1))]
        refine go (-1, -1) ?_
        rw [spR, if_neg c]
        rfl
    · obtain ⟨d', rfl⟩ : ∃ d', d = d' + 2 := ⟨d - 2, by omega⟩
      have e2 : spF (mw j) j (fun q => L (7 * (d' + 2 - 1) + q)) (fun q => M (7 * (d' + 2 - 1) + q)) P = spF (mw j) j (fun q => (spR P mr mw to (d' + 1) q).1) (fun q => (spR P mr mw to (d' + 1) q).2) P := by
        apply spF_cong
        intro q hq
        have h := hA (d' + 1) q (by omega) (by omega) hq
        exact ⟨congrArg Prod.fst h, congrArg Prod.snd h⟩
      have g := fs_cellL N hP hj' (by omega) hd hm L M mw P 0 N (by omega) (by omega)
      rw [e2] at g
      have ok := spF_ok (w := mw j) (p := j) (lo := fun q => (spR P mr mw to (d' + 1) q).1) (hi := fun q => (spR P mr mw to (d' + 1) q).2) (by omega) (fun q hq => spR_ok (to := to) (w := mw) hr (d' + 1) q (by omega) hq) P (Nat.le_refl _)
      rw [if_neg (ne_1 e (by omega)), fs_J35 N hP hj' h1 hd L M mp mr mw _ (-1) _ (by omega) ok g]
      exact go _ rfl
theorem fs_all (N : Nat) (hN : 50 ≤ N) {P : Nat} {mp mr mw : Nat → Int32} (hr : spH P mr) (hm : mp 0 = nI P) {to : Nat} (hto : to < P) (L M : Nat → Int32) :
    ∃ L' M', f9_findSpans N (nI to) mp mr mw L M = some (L', M') ∧ fsA 40 P (spR P mr mw to) L' M' := by
  have H : ∀ (k e n : Nat) (L M : Nat → Int32), e + k = 41 → 1 ≤ e → k < n → fsA (e - 1) P (spR P mr mw to) L M → ∃ L' M', f9_findSpans_L2 N (nI to) mp mr mw n (nI e) L M = some (L', M') ∧ fsA 40 P (spR P mr mw to) L' M' := by
    intro k
    induction k with
    | zero =>
      intro e n L M he h1 hn hA
      obtain ⟨n, rfl⟩ : ∃ n', n = n' + 1 := ⟨n - 1, by omega⟩
      exact ⟨L, M, by rw [f9_findSpans_L2, if_pos (by rw [t_lt, t_40, t_nI (by omega)]; omega)], fun d p h2 h3 h4 => hA d p h2 (by omega) h4⟩
    | succ k ih =>
      intro e n L M he h1 hn hA
      obtain ⟨n, rfl⟩ : ∃ n', n = n' + 1 := ⟨n - 1, by omega⟩
      obtain ⟨L1, M1, g1, g2, g3⟩ := fs_dayL N (by omega) hr hm hto h1 (show e ≤ 40 by omega) P 0 N L M (by omega) (by have := hr.1; omega) hA
      rw [f9_findSpans_L2, if_neg (by rw [t_lt, t_40, t_nI (by omega)]; omega), l_0, g1, ob2_k, nI_1]
      refine ih (e + 1) n L1 M1 (by omega) (by omega) (by omega) (fun d p h2 h3 h4 => ?_)
      by_cases c : d = e
      · subst c
        exact g2 p (Nat.zero_le _) h4
      · have := hr.1
        obtain ⟨a1, a2⟩ := g3 (7 * d + p) (Or.inl (by omega))
        rw [a1, a2]
        exact hA d p h2 (by omega) h4
  obtain ⟨L', M', e1, e2⟩ := H 40 1 N L M (by omega) (by omega) (by omega) (fun d p h2 h3 h4 => by omega)
  refine ⟨L', M', ?_, e2⟩
  unfold f9_findSpans
  rw [l_1, e1]
  rfl
