/-! arrays of arrays: the outer row of the addresses r 0 .. r (n - 1), the inner ones in their order behind -/
abbrev gO (n : Nat) (r : Nat → Nat) : (Nat → Int32) ⊕ (Nat → Int64) ⊕ (Nat → UInt32) ⊕ (Nat → UInt64) ⊕ (Nat → Option Nat) := .inr (.inr (.inr (.inr (fun i => if i < n then some (r i) else none))))
def gW (r : Nat → Nat) (n k : Nat) (cA : ClassId) (M : Nat → Nat → Int32) : va_W := (List.range n).map (fun i => (r i, .inl (cA, k, .inl (M i))))
def gWL (r : Nat → Nat) (n k : Nat) (cA : ClassId) (M : Nat → Nat → Int64) : va_W := (List.range n).map (fun i => (r i, .inl (cA, k, .inr (.inl (M i)))))
def upM {α : Type} (M : Nat → α) (i : Nat) (v : α) : Nat → α := fun a => if a = i then v else M a
theorem gm_get {α : Type} {P Y : List α} {f : Nat → α} {n i : Nat} (hi : i < n) : (P ++ ((List.range n).map f ++ Y))[P.length + i]? = some (f i) := by
  rw [List.getElem?_append_right (by omega), List.getElem?_append_left (by simp; omega)]
  simp [List.getElem?_map, List.getElem?_range, show P.length + i - P.length = i by omega, hi]
theorem gm_set {α : Type} {P Y : List α} {f g : Nat → α} {n i : Nat} (hi : i < n) (ho : ∀ j, j ≠ i → g j = f j) : (P ++ ((List.range n).map f ++ Y)).set (P.length + i) (g i) = P ++ ((List.range n).map g ++ Y) := by
  apply List.ext_getElem?
  intro k
  rw [List.getElem?_set]
  by_cases hk : P.length + i = k
  · subst hk
    rw [if_pos rfl, if_pos (by simp; omega), gm_get hi]
  · rw [if_neg hk]
    by_cases h1 : k < P.length
    · rw [List.getElem?_append_left h1, List.getElem?_append_left h1]
    · have hk0 : P.length ≤ k := by omega
      rw [List.getElem?_append_right hk0, List.getElem?_append_right hk0]
      by_cases h2 : k - P.length < n
      · have hl1 : k - P.length < ((List.range n).map f).length := by simpa using h2
        have hl2 : k - P.length < ((List.range n).map g).length := by simpa using h2
        rw [List.getElem?_append_left hl1, List.getElem?_append_left hl2, List.getElem?_map, List.getElem?_map, List.getElem?_range h2]
        simp [ho (k - P.length) (by omega)]
      · have hl1 : ((List.range n).map f).length ≤ k - P.length := by simpa using h2
        have hl2 : ((List.range n).map g).length ≤ k - P.length := by simpa using h2
        rw [List.getElem?_append_right hl1, List.getElem?_append_right hl2]
        simp
theorem gW_rowA {X Y : va_W} {r : Nat → Nat} {n k : Nat} {cA : ClassId} {M : Nat → Nat → Int32} {i : Int32} (hi : vp_in i n) : ∃ q0, (X ++ (gW r n k cA M ++ Y))[q0]? = some (r i.toNatClampNeg, .inl (cA, k, .inl (M i.toNatClampNeg))) ∧ ∀ v, (X ++ (gW r n k cA M ++ Y)).set q0 (r i.toNatClampNeg, .inl (cA, k, .inl (v))) = X ++ (gW r n k cA (upM M i.toNatClampNeg v) ++ Y) := by
  have hlt : i.toNatClampNeg < n := Nat.not_le.mp fun q => hi (Or.inr q)
  refine ⟨X.length + i.toNatClampNeg, ?_, fun v => ?_⟩
  · exact gm_get (f := fun i => ((r i, .inl (cA, k, .inl (M i))) : Nat × va_E)) hlt
  · have h := gm_set (P := X) (Y := Y) (f := fun i => ((r i, .inl (cA, k, .inl (M i))) : Nat × va_E)) (g := fun j => ((r j, .inl (cA, k, .inl (upM M i.toNatClampNeg v j))) : Nat × va_E)) hlt (fun j hj => by simp [upM, hj])
    simp only [upM, if_true] at h
    exact h
theorem gW_rowB {X Y : va_W} {r : Nat → Nat} {n k : Nat} {cA : ClassId} {M : Nat → Nat → Int32} {i : Int32} (hi : vp_in i n) : ∃ q0, (X ++ (Y ++ gW r n k cA M))[q0]? = some (r i.toNatClampNeg, .inl (cA, k, .inl (M i.toNatClampNeg))) ∧ ∀ v, (X ++ (Y ++ gW r n k cA M)).set q0 (r i.toNatClampNeg, .inl (cA, k, .inl (v))) = X ++ (Y ++ gW r n k cA (upM M i.toNatClampNeg v)) := by
  have hlt : i.toNatClampNeg < n := Nat.not_le.mp fun q => hi (Or.inr q)
  have e0 : ∀ M : Nat → Nat → Int32, X ++ (Y ++ gW r n k cA M) = (X ++ Y) ++ (gW r n k cA M ++ []) := fun M => by rw [List.append_nil, List.append_assoc]
  refine ⟨(X ++ Y).length + i.toNatClampNeg, ?_, fun v => ?_⟩
  · rw [e0]; exact gm_get (f := fun i => ((r i, .inl (cA, k, .inl (M i))) : Nat × va_E)) hlt
  · rw [e0, e0]; have h := gm_set (P := (X ++ Y)) (Y := []) (f := fun i => ((r i, .inl (cA, k, .inl (M i))) : Nat × va_E)) (g := fun j => ((r j, .inl (cA, k, .inl (upM M i.toNatClampNeg v j))) : Nat × va_E)) hlt (fun j hj => by simp [upM, hj])
    simp only [upM, if_true] at h
    exact h
theorem gW_rowS {X : va_W} {r : Nat → Nat} {n k : Nat} {cA : ClassId} {M : Nat → Nat → Int32} {i : Int32} (hi : vp_in i n) : ∃ q0, (X ++ gW r n k cA M)[q0]? = some (r i.toNatClampNeg, .inl (cA, k, .inl (M i.toNatClampNeg))) ∧ ∀ v, (X ++ gW r n k cA M).set q0 (r i.toNatClampNeg, .inl (cA, k, .inl (v))) = X ++ gW r n k cA (upM M i.toNatClampNeg v) := by
  have hlt : i.toNatClampNeg < n := Nat.not_le.mp fun q => hi (Or.inr q)
  have e0 : ∀ M : Nat → Nat → Int32, X ++ gW r n k cA M = X ++ (gW r n k cA M ++ []) := fun M => by rw [List.append_nil]
  refine ⟨X.length + i.toNatClampNeg, ?_, fun v => ?_⟩
  · rw [e0]; exact gm_get (f := fun i => ((r i, .inl (cA, k, .inl (M i))) : Nat × va_E)) hlt
  · rw [e0, e0]; have h := gm_set (P := X) (Y := []) (f := fun i => ((r i, .inl (cA, k, .inl (M i))) : Nat × va_E)) (g := fun j => ((r j, .inl (cA, k, .inl (upM M i.toNatClampNeg v j))) : Nat × va_E)) hlt (fun j hj => by simp [upM, hj])
    simp only [upM, if_true] at h
    exact h
theorem gWL_rowA {X Y : va_W} {r : Nat → Nat} {n k : Nat} {cA : ClassId} {M : Nat → Nat → Int64} {i : Int32} (hi : vp_in i n) : ∃ q0, (X ++ (gWL r n k cA M ++ Y))[q0]? = some (r i.toNatClampNeg, .inl (cA, k, .inr (.inl (M i.toNatClampNeg)))) ∧ ∀ v, (X ++ (gWL r n k cA M ++ Y)).set q0 (r i.toNatClampNeg, .inl (cA, k, .inr (.inl (v)))) = X ++ (gWL r n k cA (upM M i.toNatClampNeg v) ++ Y) := by
  have hlt : i.toNatClampNeg < n := Nat.not_le.mp fun q => hi (Or.inr q)
  refine ⟨X.length + i.toNatClampNeg, ?_, fun v => ?_⟩
  · exact gm_get (f := fun i => ((r i, .inl (cA, k, .inr (.inl (M i)))) : Nat × va_E)) hlt
  · have h := gm_set (P := X) (Y := Y) (f := fun i => ((r i, .inl (cA, k, .inr (.inl (M i)))) : Nat × va_E)) (g := fun j => ((r j, .inl (cA, k, .inr (.inl (upM M i.toNatClampNeg v j)))) : Nat × va_E)) hlt (fun j hj => by simp [upM, hj])
    simp only [upM, if_true] at h
    exact h
theorem gWL_rowB {X Y : va_W} {r : Nat → Nat} {n k : Nat} {cA : ClassId} {M : Nat → Nat → Int64} {i : Int32} (hi : vp_in i n) : ∃ q0, (X ++ (Y ++ gWL r n k cA M))[q0]? = some (r i.toNatClampNeg, .inl (cA, k, .inr (.inl (M i.toNatClampNeg)))) ∧ ∀ v, (X ++ (Y ++ gWL r n k cA M)).set q0 (r i.toNatClampNeg, .inl (cA, k, .inr (.inl (v)))) = X ++ (Y ++ gWL r n k cA (upM M i.toNatClampNeg v)) := by
  have hlt : i.toNatClampNeg < n := Nat.not_le.mp fun q => hi (Or.inr q)
  have e0 : ∀ M : Nat → Nat → Int64, X ++ (Y ++ gWL r n k cA M) = (X ++ Y) ++ (gWL r n k cA M ++ []) := fun M => by rw [List.append_nil, List.append_assoc]
  refine ⟨(X ++ Y).length + i.toNatClampNeg, ?_, fun v => ?_⟩
  · rw [e0]; exact gm_get (f := fun i => ((r i, .inl (cA, k, .inr (.inl (M i)))) : Nat × va_E)) hlt
  · rw [e0, e0]; have h := gm_set (P := (X ++ Y)) (Y := []) (f := fun i => ((r i, .inl (cA, k, .inr (.inl (M i)))) : Nat × va_E)) (g := fun j => ((r j, .inl (cA, k, .inr (.inl (upM M i.toNatClampNeg v j)))) : Nat × va_E)) hlt (fun j hj => by simp [upM, hj])
    simp only [upM, if_true] at h
    exact h
theorem gWL_rowS {X : va_W} {r : Nat → Nat} {n k : Nat} {cA : ClassId} {M : Nat → Nat → Int64} {i : Int32} (hi : vp_in i n) : ∃ q0, (X ++ gWL r n k cA M)[q0]? = some (r i.toNatClampNeg, .inl (cA, k, .inr (.inl (M i.toNatClampNeg)))) ∧ ∀ v, (X ++ gWL r n k cA M).set q0 (r i.toNatClampNeg, .inl (cA, k, .inr (.inl (v)))) = X ++ gWL r n k cA (upM M i.toNatClampNeg v) := by
  have hlt : i.toNatClampNeg < n := Nat.not_le.mp fun q => hi (Or.inr q)
  have e0 : ∀ M : Nat → Nat → Int64, X ++ gWL r n k cA M = X ++ (gWL r n k cA M ++ []) := fun M => by rw [List.append_nil]
  refine ⟨X.length + i.toNatClampNeg, ?_, fun v => ?_⟩
  · rw [e0]; exact gm_get (f := fun i => ((r i, .inl (cA, k, .inr (.inl (M i)))) : Nat × va_E)) hlt
  · rw [e0, e0]; have h := gm_set (P := X) (Y := []) (f := fun i => ((r i, .inl (cA, k, .inr (.inl (M i)))) : Nat × va_E)) (g := fun j => ((r j, .inl (cA, k, .inr (.inl (upM M i.toNatClampNeg v j)))) : Nat × va_E)) hlt (fun j hj => by simp [upM, hj])
    simp only [upM, if_true] at h
    exact h
section VGR
variable {p : Program} {l : Launch} {e : Env} {R : Room} {s : State} {m : MethodId} {args : Array Value} {below : List Frame} {meth : Method} {c : Code} {H : Heap} {locs : List Loc} {cells slots : Nat} {Q : State → Prop}
variable {cc : ByteArray} {pc : Nat} {ls : Array Slot} {rest : List Value} {D : va_G} {cl : List vw_C} {A : Nat → Prop} {a : Nat} {tys : List (ClassId × FieldType)} {ws : va_W} {H0 : Heap}
theorem wv_aald {ty : FieldType} (hx : p.tables.exec = Jvm.exec) (hb : c.code = cc) (hK : va_K D cl tys s) (hP : va_P D cl ws H) (q0 t0 : Nat) {cA : ClassId} {n : Nat} {r : Nat → Nat} (ha : ws[q0]? = some (a, .inl (cA, n, gO n r))) (ht : tys[t0]? = some (cA, .array ty)) {i : Int32} (hin : vp_in i n) (hdg : decode cc pc = .ok (.aaload, 1))
    (kk : W p l e R s m args below meth c H locs cells slots Q (F0 m (pc + 1) ls (.ref (r i.toNatClampNeg) :: rest))) : W p l e R s m args below meth c H locs cells slots Q (F0 m pc ls (.int i :: .ref a :: rest)) := by
  have hlt : i.toNatClampNeg < n := Nat.not_le.mp fun q => hin (Or.inr q)
  refine W.aald (v := .ref (r i.toNatClampNeg)) (ty := .array ty) hx hb (hP q0 _ ha) ((hK.2 t0 _ ht).1 n (fun j => va_rf (if j < n then some (r j) else none))) rfl (fun q => by cases q) (by show ¬ (i < 0 ∨ (arrV _ _ _).slots.size ≤ _); rw [arrV_size]; exact hin) ?_ rfl rfl hdg kk
  show (arrV _ _ _).slots[_]? = _
  rw [arrV_read _ _ hlt]
  simp [hlt, va_rf]
theorem wv_iald (hx : p.tables.exec = Jvm.exec) (hb : c.code = cc) (hK : va_K D cl tys s) (hP : va_P D cl ws H) (t0 : Nat) {cA : ClassId} {n : Nat} {f : Nat → Int32} {P : Nat → Prop} (ha : ∃ q0, ws[q0]? = some (a, .inl (cA, n, .inl f)) ∧ P q0) (ht : tys[t0]? = some (cA, .int)) {i : Int32} (hin : vp_in i n) (hdg : decode cc pc = .ok (.iaload, 1))
    (kk : W p l e R s m args below meth c H locs cells slots Q (F0 m (pc + 1) ls (.int (f i.toNatClampNeg) :: rest))) : W p l e R s m args below meth c H locs cells slots Q (F0 m pc ls (.int i :: .ref a :: rest)) := by
  obtain ⟨q0, h0, -⟩ := ha
  exact va_iald hx hb hK hP q0 t0 h0 ht hin hdg kk
theorem wv_lald (hx : p.tables.exec = Jvm.exec) (hb : c.code = cc) (hK : va_K D cl tys s) (hP : va_P D cl ws H) (t0 : Nat) {cA : ClassId} {n : Nat} {f : Nat → Int64} {P : Nat → Prop} (ha : ∃ q0, ws[q0]? = some (a, .inl (cA, n, .inr (.inl f))) ∧ P q0) (ht : tys[t0]? = some (cA, .long)) {i : Int32} (hin : vp_in i n) (hdg : decode cc pc = .ok (.laload, 1))
    (kk : W p l e R s m args below meth c H locs cells slots Q (F0 m (pc + 1) ls (.long (f i.toNatClampNeg) :: rest))) : W p l e R s m args below meth c H locs cells slots Q (F0 m pc ls (.int i :: .ref a :: rest)) := by
  obtain ⟨q0, h0, -⟩ := ha
  exact va_lald hx hb hK hP q0 t0 h0 ht hin hdg kk
theorem wv_iast (hx : p.tables.exec = Jvm.exec) (hb : c.code = cc) (hK : va_K D cl tys s) (hP : va_P D cl ws H) (hD : va_D A ws) (hS : va_S A H0 H locs) (t0 : Nat) {cA : ClassId} {n : Nat} {f : Nat → Int32} {ws2 : (Nat → Int32) → va_W} (ha : ∃ q0, ws[q0]? = some (a, .inl (cA, n, .inl f)) ∧ ∀ v, ws.set q0 (a, .inl (cA, n, .inl v)) = ws2 v) (ht : tys[t0]? = some (cA, .int)) {i x : Int32} (hin : vp_in i n) (hdg : decode cc pc = .ok (.iastore, 1))
    (kk : ∀ (H1 : Heap) (locs1 : List Loc), va_P D cl (ws2 (upd f i.toNatClampNeg x)) H1 → va_D A (ws2 (upd f i.toNatClampNeg x)) → va_S A H0 H1 locs1 → W p l e R s m args below meth c H1 locs1 cells slots Q (F0 m (pc + 1) ls rest)) : W p l e R s m args below meth c H locs cells slots Q (F0 m pc ls (.int x :: .int i :: .ref a :: rest)) := by
  obtain ⟨q0, h0, h1⟩ := ha
  refine va_iast hx hb hK hP hD hS q0 t0 h0 ht hin hdg fun H1 locs1 h2 h3 h4 => ?_
  rw [h1] at h2 h3
  exact kk H1 locs1 h2 h3 h4
theorem wv_last (hx : p.tables.exec = Jvm.exec) (hb : c.code = cc) (hK : va_K D cl tys s) (hP : va_P D cl ws H) (hD : va_D A ws) (hS : va_S A H0 H locs) (t0 : Nat) {cA : ClassId} {n : Nat} {f : Nat → Int64} {ws2 : (Nat → Int64) → va_W} (ha : ∃ q0, ws[q0]? = some (a, .inl (cA, n, .inr (.inl f))) ∧ ∀ v, ws.set q0 (a, .inl (cA, n, .inr (.inl v))) = ws2 v) (ht : tys[t0]? = some (cA, .long)) {i : Int32} {x : Int64} (hin : vp_in i n) (hdg : decode cc pc = .ok (.lastore, 1))
    (kk : ∀ (H1 : Heap) (locs1 : List Loc), va_P D cl (ws2 (vp_updL f i.toNatClampNeg x)) H1 → va_D A (ws2 (vp_updL f i.toNatClampNeg x)) → va_S A H0 H1 locs1 → W p l e R s m args below meth c H1 locs1 cells slots Q (F0 m (pc + 1) ls rest)) : W p l e R s m args below meth c H locs cells slots Q (F0 m pc ls (.long x :: .int i :: .ref a :: rest)) := by
  obtain ⟨q0, h0, h1⟩ := ha
  refine va_last hx hb hK hP hD hS q0 t0 h0 ht hin hdg fun H1 locs1 h2 h3 h4 => ?_
  rw [h1] at h2 h3
  exact kk H1 locs1 h2 h3 h4
end VGR
/-! worlds up to their order -/
theorem vq_P {D : va_G} {cl : List vw_C} {w w' : va_W} {H : Heap} (h : w.Perm w') (hP : va_P D cl w H) : va_P D cl w' H := fun _ q hk => by
  obtain ⟨i, hi⟩ := List.mem_iff_getElem?.mp (h.mem_iff.mpr (List.mem_iff_getElem?.mpr ⟨_, hk⟩))
  exact hP i q hi
theorem vq_nd {A : Nat → Prop} {w : va_W} (h : va_D A w) : (w.map Prod.fst).Nodup := by
  rw [List.nodup_iff_pairwise_ne, List.pairwise_iff_getElem]
  intro i j hi hj hij he
  simp only [List.getElem_map] at he
  have hi' : i < w.length := by simpa using hi
  have hj' : j < w.length := by simpa using hj
  have := h.1 i j w[i] w[j] (List.getElem?_eq_getElem hi') (List.getElem?_eq_getElem hj') he
  omega
theorem vq_D {A : Nat → Prop} {w w' : va_W} (h : w.Perm w') (hD : va_D A w) : va_D A w' := by
  have n2 : (w'.map Prod.fst).Nodup := ((h.map Prod.fst).nodup_iff).mp (vq_nd hD)
  refine ⟨fun i j p q hi hj he => ?_, fun _ q hk => ?_⟩
  · have hi2 : (w'.map Prod.fst)[i]? = some p.1 := by rw [List.getElem?_map, hi]; rfl
    have hj2 : (w'.map Prod.fst)[j]? = some p.1 := by rw [List.getElem?_map, hj, he]; rfl
    have hl := (List.getElem?_eq_some_iff.mp hi2).1
    exact (List.getElem?_inj hl n2).mp (hi2.trans hj2.symm)
  · obtain ⟨i, hi⟩ := List.mem_iff_getElem?.mp (h.mem_iff.mpr (List.mem_iff_getElem?.mpr ⟨_, hk⟩))
    exact hD.2 i q hi
theorem vq_join {A0 : Nat → Prop} {D : va_G} {cl : List vw_C} {wr wc w1 : va_W} {H H1 : Heap} (hP : va_P D cl (wr ++ wc) H) (hD : va_D A0 (wr ++ wc))
    (hk : ∀ q : Nat, q < H.size → ¬ va_A wc H.size q → H1[q]? = H[q]?) (hF : ∀ q, va_A wc H.size q → A0 q) (hP1 : va_P D cl w1 H1) (hD1 : va_D (va_A wc H.size) w1) : va_P D cl (wr ++ w1) H1 ∧ va_D A0 (wr ++ w1) := by
  have hPr : va_P D cl wr H := fun k q hk => hP k q (by rw [List.getElem?_append_left (List.getElem?_eq_some_iff.mp hk).1]; exact hk)
  have hout : ∀ (k : Nat) (q : Nat × va_E), wr[k]? = some q → ¬ va_A wc H.size q.1 := fun k q hq h => by
    have hkl := (List.getElem?_eq_some_iff.mp hq).1
    rcases h with ⟨i, e, hi⟩ | h
    · have hi2 : (wr ++ wc)[wr.length + i]? = some (q.1, e) := by rw [List.getElem?_append_right (by omega), show wr.length + i - wr.length = i by omega]; exact hi
      have hq2 : (wr ++ wc)[k]? = some q := by rw [List.getElem?_append_left hkl]; exact hq
      have := hD.1 _ _ _ _ hq2 hi2 rfl
      omega
    · have := (hPr k q hq).lt
      omega
  refine ⟨(hPr.kept (fun k q hq => hk q.1 ((hPr k q hq).lt) (hout k q hq))).app hP1, ?_⟩
  refine va_D.app ⟨fun i j p q hi hj he => ?_, fun k q hq => ?_⟩ (hD1.weaken (fun _ q _ h => hF q.1 h)) (fun i j p q hi hj he => hout i p hi (by rw [he]; exact hD1.2 j q hj))
  · exact hD.1 i j p q (by rw [List.getElem?_append_left (List.getElem?_eq_some_iff.mp hi).1]; exact hi) (by rw [List.getElem?_append_left (List.getElem?_eq_some_iff.mp hj).1]; exact hj) he
  · exact hD.2 k q (by rw [List.getElem?_append_left (List.getElem?_eq_some_iff.mp hq).1]; exact hq)
theorem vq_free {A0 : Nat → Prop} {wr wc : va_W} {H0 H : Heap} {locs : List Loc} (hD : va_D A0 (wr ++ wc)) (hS : va_S A0 H0 H locs) (hA : ∀ q, H0.size ≤ q → A0 q) : ∀ q, va_A wc H.size q → A0 q := fun q h => by
  rcases h with ⟨i, e, hi⟩ | h
  · exact hD.2 (wr.length + i) (q, e) (by rw [List.getElem?_append_right (by omega), show wr.length + i - wr.length = i by omega]; exact hi)
  · exact hA q (Nat.le_trans hS.1 h)
theorem pm_x {X Y : va_W} (is : List Nat) (hp : is.isPerm (List.range X.length) = true) (h : is.map (fun i => X[i]?) = Y.map some) : X.Perm Y := by
  have h1 : (is.map (fun i => X[i]?)).Perm ((List.range X.length).map (fun i => X[i]?)) := (List.isPerm_iff.mp hp).map _
  have h2 : (List.range X.length).map (fun i => X[i]?) = X.map some := by
    apply List.ext_getElem?
    intro k
    rw [List.getElem?_map, List.getElem?_map]
    by_cases hk : k < X.length
    · rw [List.getElem?_range hk, List.getElem?_eq_getElem hk]; simp [hk]
    · rw [List.getElem?_eq_none (by simp; omega), List.getElem?_eq_none (by omega)]; rfl
  rw [h, h2] at h1
  have h3 := h1.filterMap id
  simp only [List.filterMap_map] at h3
  have e : ∀ Z : va_W, Z.filterMap (id ∘ some) = Z := fun Z => by
    induction Z with
    | nil => rfl
    | cons a t ih => rw [List.filterMap_cons]; simp only [Function.comp, id]; rw [ih]
  rw [e, e] at h3
  exact h3.symm
theorem pm_Q {X xr xc pl : va_W} (h : X.Perm (xr ++ xc)) : (X ++ pl).Perm ((xr ++ pl) ++ xc) := by
  refine (h.append_right pl).trans ?_
  rw [List.append_assoc, List.append_assoc]
  exact List.perm_append_comm.append_left xr
theorem pm_P {X xr xc pl : va_W} (h : X.Perm (xr ++ xc)) : (X ++ pl).Perm (xr ++ (xc ++ pl)) := by
  refine (h.append_right pl).trans ?_
  rw [List.append_assoc]
theorem pm_A {X xr xc a b : va_W} (h : X.Perm (xr ++ xc)) : (X ++ (a ++ b)).Perm ((xr ++ b) ++ (xc ++ a)) := by
  refine (h.append_right (a ++ b)).trans ?_
  rw [List.append_assoc, List.append_assoc]
  refine List.Perm.append_left xr ?_
  rw [← List.append_assoc xc a b]
  exact List.perm_append_comm
theorem pm_B {X xr xc a b : va_W} (h : X.Perm (xr ++ xc)) : (X ++ (a ++ b)).Perm ((xr ++ a) ++ (xc ++ b)) := by
  refine (h.append_right (a ++ b)).trans ?_
  rw [List.append_assoc, List.append_assoc]
  refine List.Perm.append_left xr ?_
  rw [← List.append_assoc xc a b, ← List.append_assoc a xc b]
  exact List.perm_append_comm.append_right b
theorem cg_vi {p : Program} {l : Launch} {e : Env} {R : Room} {s : State} {m : MethodId} {args : Array Value} {below : List Frame} {meth : Method} {c : Code} {H : Heap} {locs : List Loc} {Q : State → Prop} {cc : ByteArray} {pc nL n index maxL : Nat} {ls : Array Slot} {rest st0 As : List Value} {D : va_G} {cy : Nat → ClassId} {A : Nat → Prop} {H0 : Heap} {Ts wsM : List Cond} {own C : String} {y : MethodName} {bytes : ByteArray} {rm : Room} {ws wc w1 wr ws2 : va_W} {r : Int32} {b q0 ci : Nat} {fs : List Value} {T : u_T} {NN : Nat} {rt : Option FieldType} (hx : p.tables.exec = Jvm.exec) (hb : c.code = cc) (hml : c.maxLocals = nL) (hown : s.vm.findClass own = some m.cls) (hts : ∀ w ∈ Ts, w.before args s = true) (hM : ∀ sz, CTi l y wsM rm (.ref b :: As) D cy sz wc w1 r) (cw : CallW R s args own C index y bytes maxL rt wsM rm 0 0 n) (hK : va_K D vwCl (tyA cy) s) (hP : va_P D vwCl ws H) (hD : va_D A ws) (hS : va_S A H0 H locs) (hA : ∀ q, H0.size ≤ q → A q) (hrc : ws[q0]? = some (b, .inr (ci, fs))) (hrk : vwCl[ci]? = some (C, T, NN)) (hp1 : ws.Perm (wr ++ wc)) (hp2 : (wr ++ w1).Perm ws2) (hlen : As.length = n) (hst : st0 = As.reverse ++ .ref b :: rest) (hsz : ls.size = nL) (hrs : (rest.map fun v => v.category).sum ≤ 8) (hdg : decode cc pc = .ok (.invokevirtual index, 3)) (hfr : 0 ≤ R.cells ∧ 0 ≤ R.slots)
    (kk : ∀ (H1 : Heap) (locs1 : List Loc), va_P D vwCl ws2 H1 → va_D A ws2 → va_S A H0 H1 locs1 → W p l e R s m args below meth c H1 locs1 0 0 Q (F0 m (pc + 3) ls (.int r :: rest))) : W p l e R s m args below meth c H locs 0 0 Q (F0 m pc ls st0) := by
  subst hst
  have hPp := vq_P hp1 hP
  have hDp := vq_D hp1 hD
  have hPc : va_P D vwCl wc H := fun k q hk => hPp (wr.length + k) q (by rw [List.getElem?_append_right (by omega), show wr.length + k - wr.length = k by omega]; exact hk)
  have hDc : va_D (fun _ => True) wc := ⟨fun i j p q hi hj he => by
    have := hDp.1 (wr.length + i) (wr.length + j) p q (by rw [List.getElem?_append_right (by omega), show wr.length + i - wr.length = i by omega]; exact hi) (by rw [List.getElem?_append_right (by omega), show wr.length + j - wr.length = j by omega]; exact hj) he
    omega, fun _ _ _ => trivial⟩
  have hFc := vq_free hDp hS hA
  refine va_calli (va_runV ⟨hx, hb, hml, hown, hts⟩ (hM H.size) cw ⟨fun a U g mk q => by obtain ⟨q0, q1, qP, qK, qD⟩ := q; exact ⟨q0, q1, qP, va_K.moved (u := U) (U := U.calling g mk a) (Vm.Alike.refl U.vm) qK, qD⟩, va_recv hK hP hrk hrc, fun U hU hW => ⟨rfl, by rw [hU], by rw [hU]; exact hPc, va_K.moved hW.alike hK, hDc⟩⟩ rfl hlen hsz rfl (lv_room hrs) hdg hfr) hS (fun q _ h => hFc q h) hFc (fun r1 u t H1 locs1 ht hvm hw hB hz1 hk1 hS1 => ?_)
  obtain ⟨hP1, -, hD1⟩ := hB
  rw [ht] at hP1
  obtain ⟨hPj, hDj⟩ := vq_join hPp hDp hk1 hFc hP1 hD1
  subst hw
  exact kk H1 locs1 (vq_P hp2 hPj) (vq_D hp2 hDj) hS1
theorem cg_vv {p : Program} {l : Launch} {e : Env} {R : Room} {s : State} {m : MethodId} {args : Array Value} {below : List Frame} {meth : Method} {c : Code} {H : Heap} {locs : List Loc} {Q : State → Prop} {cc : ByteArray} {pc nL n index maxL : Nat} {ls : Array Slot} {rest st0 As : List Value} {D : va_G} {cy : Nat → ClassId} {A : Nat → Prop} {H0 : Heap} {Ts wsM : List Cond} {own C : String} {y : MethodName} {bytes : ByteArray} {rm : Room} {ws wc w1 wr ws2 : va_W} {b q0 ci : Nat} {fs : List Value} {T : u_T} {NN : Nat} {rt : Option FieldType} (hx : p.tables.exec = Jvm.exec) (hb : c.code = cc) (hml : c.maxLocals = nL) (hown : s.vm.findClass own = some m.cls) (hts : ∀ w ∈ Ts, w.before args s = true) (hM : ∀ sz, CTv l y wsM rm (.ref b :: As) D cy sz wc w1) (cw : CallW R s args own C index y bytes maxL rt wsM rm 0 0 n) (hK : va_K D vwCl (tyA cy) s) (hP : va_P D vwCl ws H) (hD : va_D A ws) (hS : va_S A H0 H locs) (hA : ∀ q, H0.size ≤ q → A q) (hrc : ws[q0]? = some (b, .inr (ci, fs))) (hrk : vwCl[ci]? = some (C, T, NN)) (hp1 : ws.Perm (wr ++ wc)) (hp2 : (wr ++ w1).Perm ws2) (hlen : As.length = n) (hst : st0 = As.reverse ++ .ref b :: rest) (hsz : ls.size = nL) (hrs : (rest.map fun v => v.category).sum ≤ 8) (hdg : decode cc pc = .ok (.invokevirtual index, 3)) (hfr : 0 ≤ R.cells ∧ 0 ≤ R.slots)
    (kk : ∀ (H1 : Heap) (locs1 : List Loc), va_P D vwCl ws2 H1 → va_D A ws2 → va_S A H0 H1 locs1 → W p l e R s m args below meth c H1 locs1 0 0 Q (F0 m (pc + 3) ls (rest))) : W p l e R s m args below meth c H locs 0 0 Q (F0 m pc ls st0) := by
  subst hst
  have hPp := vq_P hp1 hP
  have hDp := vq_D hp1 hD
  have hPc : va_P D vwCl wc H := fun k q hk => hPp (wr.length + k) q (by rw [List.getElem?_append_right (by omega), show wr.length + k - wr.length = k by omega]; exact hk)
  have hDc : va_D (fun _ => True) wc := ⟨fun i j p q hi hj he => by
    have := hDp.1 (wr.length + i) (wr.length + j) p q (by rw [List.getElem?_append_right (by omega), show wr.length + i - wr.length = i by omega]; exact hi) (by rw [List.getElem?_append_right (by omega), show wr.length + j - wr.length = j by omega]; exact hj) he
    omega, fun _ _ _ => trivial⟩
  have hFc := vq_free hDp hS hA
  refine va_callv (va_runV ⟨hx, hb, hml, hown, hts⟩ (hM H.size) cw ⟨fun a U g mk q => by obtain ⟨q0, q1, qP, qK, qD⟩ := q; exact ⟨q0, q1, qP, va_K.moved (u := U) (U := U.calling g mk a) (Vm.Alike.refl U.vm) qK, qD⟩, va_recv hK hP hrk hrc, fun U hU hW => ⟨rfl, by rw [hU], by rw [hU]; exact hPc, va_K.moved hW.alike hK, hDc⟩⟩ rfl hlen hsz rfl (lv_room hrs) hdg hfr) hS (fun q _ h => hFc q h) hFc (fun u t H1 locs1 ht hvm hw hB hz1 hk1 hS1 => ?_)
  obtain ⟨hP1, -, hD1⟩ := hB
  rw [ht] at hP1
  obtain ⟨hPj, hDj⟩ := vq_join hPp hDp hk1 hFc hP1 hD1
  exact kk H1 locs1 (vq_P hp2 hPj) (vq_D hp2 hDj) hS1
theorem cg_si {p : Program} {l : Launch} {e : Env} {R : Room} {s : State} {m : MethodId} {args : Array Value} {below : List Frame} {meth : Method} {c : Code} {H : Heap} {locs : List Loc} {Q : State → Prop} {cc : ByteArray} {pc nL n index maxL : Nat} {ls : Array Slot} {rest st0 As : List Value} {D : va_G} {cy : Nat → ClassId} {A : Nat → Prop} {H0 : Heap} {Ts wsM : List Cond} {own : String} {y : MethodName} {bytes : ByteArray} {rm : Room} {ws wc w1 wr ws2 : va_W} {r : Int32} {rt : Option FieldType} (hx : p.tables.exec = Jvm.exec) (hb : c.code = cc) (hml : c.maxLocals = nL) (hown : s.vm.findClass own = some m.cls) (hts : ∀ w ∈ Ts, w.before args s = true) (hM : ∀ sz, CTi l y wsM rm As D cy sz wc w1 r) (cw : CallB R s args own index y bytes maxL rt wsM rm 0 0 n ∧ (Cond.static y).before args s = true) (hK : va_K D vwCl (tyA cy) s) (hP : va_P D vwCl ws H) (hD : va_D A ws) (hS : va_S A H0 H locs) (hA : ∀ q, H0.size ≤ q → A q) (hp1 : ws.Perm (wr ++ wc)) (hp2 : (wr ++ w1).Perm ws2) (hlen : As.length = n) (hst : st0 = As.reverse ++ rest) (hsz : ls.size = nL) (hrs : (rest.map fun v => v.category).sum ≤ 8) (hdg : decode cc pc = .ok (.invokestatic index, 3)) (hfr : 0 ≤ R.cells ∧ 0 ≤ R.slots)
    (kk : ∀ (H1 : Heap) (locs1 : List Loc), va_P D vwCl ws2 H1 → va_D A ws2 → va_S A H0 H1 locs1 → W p l e R s m args below meth c H1 locs1 0 0 Q (F0 m (pc + 3) ls (.int r :: rest))) : W p l e R s m args below meth c H locs 0 0 Q (F0 m pc ls st0) := by
  subst hst
  have hPp := vq_P hp1 hP
  have hDp := vq_D hp1 hD
  have hPc : va_P D vwCl wc H := fun k q hk => hPp (wr.length + k) q (by rw [List.getElem?_append_right (by omega), show wr.length + k - wr.length = k by omega]; exact hk)
  have hDc : va_D (fun _ => True) wc := ⟨fun i j p q hi hj he => by
    have := hDp.1 (wr.length + i) (wr.length + j) p q (by rw [List.getElem?_append_right (by omega), show wr.length + i - wr.length = i by omega]; exact hi) (by rw [List.getElem?_append_right (by omega), show wr.length + j - wr.length = j by omega]; exact hj) he
    omega, fun _ _ _ => trivial⟩
  have hFc := vq_free hDp hS hA
  refine va_calli (va_runS ⟨hx, hb, hml, hown, hts⟩ (hM H.size) cw ⟨fun a U g mk q => by obtain ⟨q0, q1, qP, qK, qD⟩ := q; exact ⟨q0, q1, qP, va_K.moved (u := U) (U := U.calling g mk a) (Vm.Alike.refl U.vm) qK, qD⟩, fun U hU hW => ⟨rfl, by rw [hU], by rw [hU]; exact hPc, va_K.moved hW.alike hK, hDc⟩⟩ rfl hlen hsz rfl (lv_room hrs) hdg hfr) hS (fun q _ h => hFc q h) hFc (fun r1 u t H1 locs1 ht hvm hw hB hz1 hk1 hS1 => ?_)
  obtain ⟨hP1, -, hD1⟩ := hB
  rw [ht] at hP1
  obtain ⟨hPj, hDj⟩ := vq_join hPp hDp hk1 hFc hP1 hD1
  subst hw
  exact kk H1 locs1 (vq_P hp2 hPj) (vq_D hp2 hDj) hS1
theorem cg_sv {p : Program} {l : Launch} {e : Env} {R : Room} {s : State} {m : MethodId} {args : Array Value} {below : List Frame} {meth : Method} {c : Code} {H : Heap} {locs : List Loc} {Q : State → Prop} {cc : ByteArray} {pc nL n index maxL : Nat} {ls : Array Slot} {rest st0 As : List Value} {D : va_G} {cy : Nat → ClassId} {A : Nat → Prop} {H0 : Heap} {Ts wsM : List Cond} {own : String} {y : MethodName} {bytes : ByteArray} {rm : Room} {ws wc w1 wr ws2 : va_W} {rt : Option FieldType} (hx : p.tables.exec = Jvm.exec) (hb : c.code = cc) (hml : c.maxLocals = nL) (hown : s.vm.findClass own = some m.cls) (hts : ∀ w ∈ Ts, w.before args s = true) (hM : ∀ sz, CTv l y wsM rm As D cy sz wc w1) (cw : CallB R s args own index y bytes maxL rt wsM rm 0 0 n ∧ (Cond.static y).before args s = true) (hK : va_K D vwCl (tyA cy) s) (hP : va_P D vwCl ws H) (hD : va_D A ws) (hS : va_S A H0 H locs) (hA : ∀ q, H0.size ≤ q → A q) (hp1 : ws.Perm (wr ++ wc)) (hp2 : (wr ++ w1).Perm ws2) (hlen : As.length = n) (hst : st0 = As.reverse ++ rest) (hsz : ls.size = nL) (hrs : (rest.map fun v => v.category).sum ≤ 8) (hdg : decode cc pc = .ok (.invokestatic index, 3)) (hfr : 0 ≤ R.cells ∧ 0 ≤ R.slots)
    (kk : ∀ (H1 : Heap) (locs1 : List Loc), va_P D vwCl ws2 H1 → va_D A ws2 → va_S A H0 H1 locs1 → W p l e R s m args below meth c H1 locs1 0 0 Q (F0 m (pc + 3) ls (rest))) : W p l e R s m args below meth c H locs 0 0 Q (F0 m pc ls st0) := by
  subst hst
  have hPp := vq_P hp1 hP
  have hDp := vq_D hp1 hD
  have hPc : va_P D vwCl wc H := fun k q hk => hPp (wr.length + k) q (by rw [List.getElem?_append_right (by omega), show wr.length + k - wr.length = k by omega]; exact hk)
  have hDc : va_D (fun _ => True) wc := ⟨fun i j p q hi hj he => by
    have := hDp.1 (wr.length + i) (wr.length + j) p q (by rw [List.getElem?_append_right (by omega), show wr.length + i - wr.length = i by omega]; exact hi) (by rw [List.getElem?_append_right (by omega), show wr.length + j - wr.length = j by omega]; exact hj) he
    omega, fun _ _ _ => trivial⟩
  have hFc := vq_free hDp hS hA
  refine va_callv (va_runS ⟨hx, hb, hml, hown, hts⟩ (hM H.size) cw ⟨fun a U g mk q => by obtain ⟨q0, q1, qP, qK, qD⟩ := q; exact ⟨q0, q1, qP, va_K.moved (u := U) (U := U.calling g mk a) (Vm.Alike.refl U.vm) qK, qD⟩, fun U hU hW => ⟨rfl, by rw [hU], by rw [hU]; exact hPc, va_K.moved hW.alike hK, hDc⟩⟩ rfl hlen hsz rfl (lv_room hrs) hdg hfr) hS (fun q _ h => hFc q h) hFc (fun u t H1 locs1 ht hvm hw hB hz1 hk1 hS1 => ?_)
  obtain ⟨hP1, -, hD1⟩ := hB
  rw [ht] at hP1
  obtain ⟨hPj, hDj⟩ := vq_join hPp hDp hk1 hFc hP1 hD1
  exact kk H1 locs1 (vq_P hp2 hPj) (vq_D hp2 hDj) hS1
