/-! spans: what the rows hold, by days and part -/
abbrev spS (w : Int32) (p q : Nat) : Prop := p = q ∨ bW w (nI q)
def spF (w : Int32) (p : Nat) (lo hi : Nat → Int32) : Nat → Int32 × Int32
  | 0 => (-1, -1)
  | q + 1 => if spS w p q then (if hi q = -1 then spF w p lo hi q else ((if (spF w p lo hi q).1 = -1 then lo q else if lo q < (spF w p lo hi q).1 then lo q else (spF w p lo hi q).1), (if (spF w p lo hi q).2 < hi q then hi q else (spF w p lo hi q).2))) else spF w p lo hi q
def spP (x r : Int32) : Int32 := if x = -1 then -1 else x + r
def spR (P : Nat) (r w : Nat → Int32) (to : Nat) : Nat → Nat → Int32 × Int32
  | 0, _ => (-1, -1)
  | 1, p => if p = to then (r p, r p) else (-1, -1)
  | d + 2, p => (spP (spF (w p) p (fun q => (spR P r w to (d + 1) q).1) (fun q => (spR P r w to (d + 1) q).2) P).1 (r p), spP (spF (w p) p (fun q => (spR P r w to (d + 1) q).1) (fun q => (spR P r w to (d + 1) q).2) P).2 (r p))
def spOk (A B : Nat) (z : Int32 × Int32) : Prop := z = (-1, -1) ∨ ∃ a b : Nat, A ≤ a ∧ a ≤ b ∧ b ≤ B ∧ z = (nI a, nI b)
theorem one_1 : nI 1 = (1 : Int32) := rfl
theorem ne_1 {d : Nat} (h : ¬ d = 1) (hd : d < 1000) : ¬ nI d = (1 : Int32) := fun q => h ((nI_eq (a := d) (b := 1) (by omega) (by omega)).mp q)
theorem nI_nm1 {a : Nat} (h : a < 2147483648) : ¬ nI a = (-1 : Int32) := fun e => by
  have := (t_eq _ _).mp e
  rw [t_nI h, t_m1] at this
  omega
theorem m1_lt {a : Nat} (h : a < 2147483648) : (-1 : Int32) < nI a := by
  rw [t_lt, t_nI h, t_m1]
  omega
theorem spF_ok {A B P : Nat} {w : Int32} {p : Nat} {lo hi : Nat → Int32} (hB : B ≤ 100000) (h : ∀ q, q < P → spOk A B (lo q, hi q)) : ∀ q, q ≤ P → spOk A B (spF w p lo hi q) := by
  intro q
  induction q with
  | zero => exact fun _ => Or.inl rfl
  | succ q ih =>
    intro hq
    have ih := ih (by omega)
    rw [spF]
    by_cases c : spS w p q
    · rw [if_pos c]
      rcases h q (by omega) with e | ⟨a, b, h1, h2, h3, e⟩
      · rw [if_pos (congrArg Prod.snd e)]
        exact ih
      · have e1 : lo q = nI a := congrArg Prod.fst e
        have e2 : hi q = nI b := congrArg Prod.snd e
        rw [e1, e2, if_neg (nI_nm1 (by omega))]
        rcases ih with e | ⟨x, y, g1, g2, g3, e⟩
        · rw [e]
          exact Or.inr ⟨a, b, h1, h2, h3, by rw [if_pos rfl, if_pos (m1_lt (by omega))]⟩
        · rw [e]
          refine Or.inr ⟨if a < x then a else x, if y < b then b else y, by split <;> omega, by split <;> split <;> omega, by split <;> omega, ?_⟩
          have c1 : (if nI a < nI x then nI a else nI x) = nI (if a < x then a else x) := by
            by_cases g : a < x
            · rw [if_pos ((nI_ltI (by omega) (by omega)).mpr g), if_pos g]
            · rw [if_neg (fun q => g ((nI_ltI (by omega) (by omega)).mp q)), if_neg g]
          have c2 : (if nI y < nI b then nI b else nI y) = nI (if y < b then b else y) := by
            by_cases g : y < b
            · rw [if_pos ((nI_ltI (by omega) (by omega)).mpr g), if_pos g]
            · rw [if_neg (fun q => g ((nI_ltI (by omega) (by omega)).mp q)), if_neg g]
          show ((if nI x = -1 then nI a else if nI a < nI x then nI a else nI x), (if nI y < nI b then nI b else nI y)) = _
          rw [if_neg (nI_nm1 (by omega)), c1, c2]
    · rw [if_neg c]
      exact ih
/-- rates as the cave has them -/
def spH (P : Nat) (r : Nat → Int32) : Prop := P ≤ 7 ∧ ∀ p, p < P → ∃ c : Nat, 10 ≤ c ∧ c ≤ 540 ∧ r p = nI c
theorem spR_ok {P : Nat} {r w : Nat → Int32} {to : Nat} (hr : spH P r) : ∀ d p, d ≤ 40 → p < P → spOk (10 * d) (540 * d) (spR P r w to d p) := by
  intro d
  induction d with
  | zero => exact fun p _ _ => Or.inl rfl
  | succ d ih =>
    intro p hd hp
    obtain ⟨c, c1, c2, c3⟩ := hr.2 p hp
    cases d with
    | zero =>
      rw [spR]
      by_cases e : p = to
      · rw [if_pos e, c3]
        exact Or.inr ⟨c, c, by omega, by omega, by omega, rfl⟩
      · rw [if_neg e]
        exact Or.inl rfl
    | succ d =>
      rw [spR]
      rcases spF_ok (w := w p) (p := p) (lo := fun q => (spR P r w to (d + 1) q).1) (hi := fun q => (spR P r w to (d + 1) q).2) (by omega) (fun q hq => ih q (by omega) hq) P (Nat.le_refl _) with e | ⟨a, b, h1, h2, h3, e⟩
      · rw [e]
        exact Or.inl rfl
      · rw [e]
        refine Or.inr ⟨a + c, b + c, by omega, by omega, by omega, ?_⟩
        show (spP (nI a) (r p), spP (nI b) (r p)) = _
        unfold spP
        rw [if_neg (nI_nm1 (by omega)), if_neg (nI_nm1 (by omega)), c3, nI_add, nI_add]
theorem RC.h {P : Nat} {dp : Int32} {dr dn mp mr mw : Nat → Int32} (hc : RC P dp dr dn mp mr mw) : spH P mr := ⟨hc.1, fun p hp => by
  obtain ⟨-, -, h1, h2⟩ := hc.2.2.2 p hp
  obtain ⟨c, g1, g2⟩ := nI_nat2 (x := mr p) (M := 540) (by omega) h2
  refine ⟨c, ?_, g1, g2⟩
  rw [g2, t_nI (by omega)] at h1
  omega⟩
/-- the class's rows up to day D -/
def spA (D : Nat) (P : Nat) (R : Nat → Nat → Int32 × Int32) (l m : Nat → Nat → Int32) : Prop := ∀ d p, 1 ≤ d → d ≤ D → p < P → (l d p, m d p) = R d p
theorem sp_cellL (N : Nat) {P d p : Nat} (hP : P ≤ 7) (hp : p < P) (h2 : 2 ≤ d) (hd : d ≤ 40) (l m : Nat → Nat → Int32) (dn : Nat → Int32) : ∀ (k q n : Nat), q + k = P → k + 8 ≤ n →
    f5_layCell_L25 N (nI d) (nI p) l m (nI P) dn n (spF (dn p) p (l (d - 1)) (m (d - 1)) q).1 (spF (dn p) p (l (d - 1)) (m (d - 1)) q).2 (nI q) = some (spF (dn p) p (l (d - 1)) (m (d - 1)) P) := by
  intro k
  induction k with
  | zero =>
    intro q n hq hn
    have e : q = P := by omega
    subst e
    exact sp_skip N hP hp l m dn (7 - q) n q _ _ (by omega) (Or.inl (Nat.le_refl _)) hd (by omega)
  | succ k ih =>
    intro q n hq hn
    obtain ⟨n, rfl⟩ : ∃ n', n = n' + 1 := ⟨n - 1, by omega⟩
    have ih := ih (q + 1) n (by omega) (by omega)
    rw [spF] at ih
    rw [f5_layCell_L25, if_neg (by rw [t_le, t_nI (by omega), t_7]; omega), if_neg (by rw [t_le, t_nI (by omega), t_1]; omega), x_mayFollow N hP hp (by omega), ob1_k, nI_1, nI_pr (by omega), sp_most N (by omega) (by omega) (by omega), sp_least N (by omega) (by omega) (by omega)]
    simp only [ob1_k]
    by_cases c : spS (dn p) p q
    · rw [if_pos c] at ih
      rw [if_pos c, if_neg (by decide)]
      by_cases e : m (d - 1) q = -1
      · rw [if_pos e] at ih ⊢
        exact ih
      · rw [if_neg e] at ih ⊢
        by_cases g : (spF (dn p) p (l (d - 1)) (m (d - 1)) q).1 = -1
        · rw [if_pos g] at ih ⊢
          exact ih
        · rw [if_neg g] at ih ⊢
          exact ih
    · rw [if_neg c] at ih
      rw [if_neg c, if_pos rfl]
      exact ih
theorem sp_J16 (N : Nat) {P d p : Nat} (hP : P ≤ 7) (hp : p < P) (h1 : 1 ≤ d) (hd : d ≤ 40) (l m : Nat → Nat → Int32) (dr dn : Nat → Int32) (s0 : Int32) (z : Int32 × Int32) (h : f5_layCell_L25 N (nI d) (nI p) l m (nI P) dn N s0 s0 (0 : Int32) = some z) :
    f5_layCell_J16 N (nI d) (nI p) l m (nI P) dr dn s0 = some (upM l d (upd (l d) p (spP z.1 (dr p))), upM m d (upd (m d) p (spP z.2 (dr p)))) := by
  obtain ⟨x, y⟩ := z
  unfold f5_layCell_J16 f5_layCell_J144
  rw [h, ob2_k]
  rw [x_rateOf N hP hp]
  simp only [ob1_k]
  rw [x_gi (by omega) (by omega), x_gi (by omega) (by omega), x_gi (by omega) (by omega), x_gi (by omega) (by omega), x_gi (by omega) (by omega), x_gi (by omega) (by omega), x_gi (by omega) (by omega), cl_nI (by omega), cl_nI (by omega)]
  unfold spP
  by_cases a : x = -1
  · by_cases b : y = -1
    · simp only [if_pos a, if_pos b]
    · simp only [if_pos a, if_neg b]
  · by_cases b : y = -1
    · simp only [if_neg a, if_pos b, x_gi (show p < 7 by omega) (show 7 < 100000 by omega)]
    · simp only [if_neg a, if_neg b, x_gi (show p < 7 by omega) (show 7 < 100000 by omega)]
theorem spF_cong {w : Int32} {p : Nat} {lo hi lo' hi' : Nat → Int32} : ∀ k, (∀ q, q < k → lo q = lo' q ∧ hi q = hi' q) → spF w p lo hi k = spF w p lo' hi' k := by
  intro k
  induction k with
  | zero => exact fun _ => rfl
  | succ k ih =>
    intro h
    rw [spF, spF, ih (fun q hq => h q (by omega)), (h k (by omega)).1, (h k (by omega)).2]
theorem sp_layCell (N : Nat) (hN : 20 ≤ N) {P : Nat} {dr dn mp mr mw : Nat → Int32} (hc : RC P (nI P) dr dn mp mr mw) {to d p : Nat} (hto : to < P) (hp : p < P) (h1 : 1 ≤ d) (hd : d ≤ 40) (l m : Nat → Nat → Int32) (hA : spA (d - 1) P (spR P mr mw to) l m) :
    f5_layCell N (nI to) (nI d) (nI p) l m (nI P) dr dn = some (upM l d (upd (l d) p (spR P mr mw to d p).1), upM m d (upd (m d) p (spR P mr mw to d p).2)) := by
  have hP := hc.1
  obtain ⟨r1, r2, -, -⟩ := hc.2.2.2 p hp
  unfold f5_layCell
  by_cases e : d = 1
  · subst e
    have sk : ∀ s0 : Int32, f5_layCell_L25 N (nI 1) (nI p) l m (nI P) dn N s0 s0 (0 : Int32) = some (s0, s0) := fun s0 => sp_skip N hP hp l m dn 7 N 0 s0 s0 (by omega) (Or.inr (Nat.le_refl _)) (by omega) (by omega)
    rw [if_pos one_1]
    by_cases c : p = to
    · subst c
      rw [if_pos rfl, sp_J16 N hP hp h1 hd l m dr dn 0 (0, 0) (sk 0), spR, if_pos rfl, r1]
      have z : spP 0 (mr p) = mr p := by
        unfold spP
        rw [if_neg (by decide), Int32.zero_add]
      simp only [z]
    · rw [if_neg (fun q => c ((nI_eq (by omega) (by omega)).mp q)), sp_J16 N hP hp h1 hd l m dr dn (-1) (-1, -1) (sk (-1)), spR, if_neg c]
      have z : ∀ r : Int32, spP (-1) r = -1 := fun r => if_pos rfl
      simp only [z]
  · obtain ⟨d', rfl⟩ : ∃ d', d = d' + 2 := ⟨d - 2, by omega⟩
    have g := sp_cellL N hP hp (by omega) hd l m dn P 0 N (by omega) (by omega)
    rw [if_neg (ne_1 e (by omega)), sp_J16 N hP hp h1 hd l m dr dn (-1) _ g, spR]
    have e2 : spF (dn p) p (l (d' + 2 - 1)) (m (d' + 2 - 1)) P = spF (mw p) p (fun q => (spR P mr mw to (d' + 1) q).1) (fun q => (spR P mr mw to (d' + 1) q).2) P := by
      rw [r2]
      apply spF_cong
      intro q hq
      have h := hA (d' + 1) q (by omega) (by omega) hq
      exact ⟨congrArg Prod.fst h, congrArg Prod.snd h⟩
    rw [e2, r1]
theorem upM_s {α : Type} {M : Nat → α} {i : Nat} {v : α} : upM M i v i = v := if_pos rfl
theorem upM_n {α : Type} {M : Nat → α} {i j : Nat} {v : α} (h : j ≠ i) : upM M i v j = M j := if_neg h
theorem sp_dayL (N : Nat) (hN : 20 ≤ N) {P : Nat} {dr dn mp mr mw : Nat → Int32} (hc : RC P (nI P) dr dn mp mr mw) {to d : Nat} (hto : to < P) (h1 : 1 ≤ d) (hd : d ≤ 40) : ∀ (k j n : Nat) (l m : Nat → Nat → Int32), j + k = 7 → k < n → spA (d - 1) P (spR P mr mw to) l m →
    ∃ l' m', f5_layDay_L3 N (nI to) (nI d) (nI P) dr dn n (nI j) l m = some (l', m') ∧ (∀ p, j ≤ p → p < P → (l' d p, m' d p) = spR P mr mw to d p) ∧ (∀ p, p < j → l' d p = l d p ∧ m' d p = m d p) ∧ ∀ e, e ≠ d → l' e = l e ∧ m' e = m e := by
  have hP := hc.1
  intro k
  induction k with
  | zero =>
    intro j n l m hj hn hA
    obtain ⟨n, rfl⟩ : ∃ n', n = n' + 1 := ⟨n - 1, by omega⟩
    exact ⟨l, m, by rw [f5_layDay_L3, if_pos (by rw [t_le, t_nI (by omega), t_7]; omega)], fun p h2 h3 => by omega, fun _ _ => ⟨rfl, rfl⟩, fun _ _ => ⟨rfl, rfl⟩⟩
  | succ k ih =>
    intro j n l m hj hn hA
    obtain ⟨n, rfl⟩ : ∃ n', n = n' + 1 := ⟨n - 1, by omega⟩
    rw [f5_layDay_L3, if_neg (c7 (by omega)), nI_1]
    by_cases c : j < P
    · rw [part_in N hP c, ob1_k, if_neg (by decide), sp_cell N h1 hd (by omega), ob1_k, if_neg (by decide), sp_layCell N hN hc hto c h1 hd l m hA, ob2_k]
      obtain ⟨l', m', e1, e2, e3, e4⟩ := ih (j + 1) n (upM l d (upd (l d) j (spR P mr mw to d j).1)) (upM m d (upd (m d) j (spR P mr mw to d j).2)) (by omega) (by omega) (fun e p h2 h3 h4 => by
        rw [upM_n (by omega), upM_n (by omega)]
        exact hA e p h2 h3 h4)
      refine ⟨l', m', e1, fun p h2 h3 => ?_, fun p h2 => ?_, fun e h2 => ?_⟩
      · by_cases g : p = j
        · subst g
          obtain ⟨a1, a2⟩ := e3 p (by omega)
          rw [a1, a2, upM_s, upM_s, pk_us, pk_us]
        · exact e2 p (by omega) h3
      · obtain ⟨a1, a2⟩ := e3 p (by omega)
        rw [a1, a2, upM_s, upM_s, pk_un (by omega), pk_un (by omega)]
        exact ⟨rfl, rfl⟩
      · obtain ⟨a1, a2⟩ := e4 e h2
        rw [a1, a2, upM_n h2, upM_n h2]
        exact ⟨rfl, rfl⟩
    · rw [part_out N hP (by omega) (by omega), ob1_k, if_pos rfl]
      obtain ⟨l', m', e1, e2, e3, e4⟩ := ih (j + 1) n l m (by omega) (by omega) hA
      exact ⟨l', m', e1, fun p h2 h3 => by omega, fun p h2 => e3 p (by omega), e4⟩
theorem sp_layDay (N : Nat) (hN : 20 ≤ N) {P : Nat} {dr dn mp mr mw : Nat → Int32} (hc : RC P (nI P) dr dn mp mr mw) {to d : Nat} (hto : to < P) (h1 : 1 ≤ d) (hd : d ≤ 40) (l m : Nat → Nat → Int32) (hA : spA (d - 1) P (spR P mr mw to) l m) :
    ∃ l' m', f5_layDay N (nI to) (nI d) l m (nI P) dr dn = some (l', m') ∧ spA d P (spR P mr mw to) l' m' := by
  obtain ⟨l', m', e1, e2, -, e4⟩ := sp_dayL N hN hc hto h1 hd 7 0 N l m (by omega) (by omega) hA
  refine ⟨l', m', ?_, fun e p h2 h3 h4 => ?_⟩
  · unfold f5_layDay
    rw [l_0, e1]
    rfl
  · by_cases g : e = d
    · subst g
      exact e2 p (Nat.zero_le _) h4
    · obtain ⟨a1, a2⟩ := e4 e g
      rw [a1, a2]
      exact hA e p h2 (by omega) h4
theorem sp_layDays (N : Nat) (hN : 50 ≤ N) {P : Nat} {dr dn mp mr mw : Nat → Int32} (hc : RC P (nI P) dr dn mp mr mw) {to D : Nat} (hto : to < P) (hD : D ≤ 40) (l m : Nat → Nat → Int32) :
    ∃ l' m', f5_layDays N (nI to) (nI D) l m (nI P) dr dn = some (l', m') ∧ spA D P (spR P mr mw to) l' m' := by
  have L : ∀ (k e n : Nat) (l m : Nat → Nat → Int32), e + k = D + 1 → 1 ≤ e → k < n → spA (e - 1) P (spR P mr mw to) l m → ∃ l' m', f5_layDays_L3 N (nI to) (nI D) (nI P) dr dn n (nI e) l m = some (l', m') ∧ spA D P (spR P mr mw to) l' m' := by
    intro k
    induction k with
    | zero =>
      intro e n l m he h1 hn hA
      obtain ⟨n, rfl⟩ : ∃ n', n = n' + 1 := ⟨n - 1, by omega⟩
      exact ⟨l, m, by rw [f5_layDays_L3, if_pos (nI_lt (by omega) (by omega))], fun d p h2 h3 h4 => hA d p h2 (by omega) h4⟩
    | succ k ih =>
      intro e n l m he h1 hn hA
      obtain ⟨n, rfl⟩ : ∃ n', n = n' + 1 := ⟨n - 1, by omega⟩
      obtain ⟨l1, m1, g1, g2⟩ := sp_layDay N (by omega) hc hto h1 (show e ≤ 40 by omega) l m hA
      rw [f5_layDays_L3, if_neg (nI_nlt (by omega) (by omega)), if_neg (by rw [t_lt, t_40, t_nI (by omega)]; omega), g1, ob2_k, nI_1]
      exact ih (e + 1) n l1 m1 (by omega) (by omega) (by omega) g2
  obtain ⟨l', m', e1, e2⟩ := L D 1 N l m (by omega) (by omega) (by omega) (fun d p h2 h3 h4 => by omega)
  refine ⟨l', m', ?_, e2⟩
  unfold f5_layDays
  rw [l_1, e1]
  rfl
