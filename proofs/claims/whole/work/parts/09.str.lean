/-! texts that stand in the class: their facts, and the JDK's own length() and charAt() over them -/
def lenS : List Nat := [4, 5, 3, 6, 8, 6]
def bytS : List (List Int32) := [[112, 97, 114, 116], [109, 111, 117, 116, 104], [119, 97, 121], [112, 101, 114, 115, 111, 110], [105, 110, 116, 101, 114, 101, 115, 116], [119, 105, 110, 116, 101, 114]]
def nR : List (Nat × String) := [(88, "part"), (94, "mouth"), (96, "way"), (98, "person"), (100, "interest"), (102, "winter")]
def SF (K V : Nat → Nat) (A : Nat → Prop) (U : State) (H : Heap) : Prop := vk_S 6 lenS bytS K V A U H ∧ va_Z "java/lang/String" "COMPACT_STRINGS" "Z" (.int 1) A U H ∧ va_Zq "jdk/internal/util/Preconditions" "SIOOBE_FORMATTER" "Ljava/util/function/BiFunction;" A U H ∧ ∀ i, i < 6 → vk_R RX3 (nR.getD i (0, "")).1 (nR.getD i (0, "")).2 (K i) U
theorem SF.kept {K V : Nat → Nat} {A : Nat → Prop} {U : State} {H H1 : Heap} (h : SF K V A U H) (hq : ∀ a : Nat, a < H.size → ¬ A a → H1[a]? = H[a]?) : SF K V A U H1 := ⟨h.1.kept hq, h.2.1.kept hq, h.2.2.1.kept hq, h.2.2.2⟩
theorem SF.narrow {K V : Nat → Nat} {A B : Nat → Prop} {U : State} {H : Heap} (h : SF K V A U H) (hAB : ∀ q, B q → A q) : SF K V B U H := ⟨h.1.narrow hAB, h.2.1.narrow hAB, h.2.2.1.narrow hAB, h.2.2.2⟩
theorem SF.warm {K V : Nat → Nat} {A : Nat → Prop} {s U : State} {H : Heap} (h : SF K V A s H) (hW : s.WarmedH U.vm) : SF K V A U H := ⟨vk_S.moved hW.alike h.1, va_Z.moved hW.alike h.2.1, va_Zq.moved hW.alike h.2.2.1, fun i hi => (h.2.2.2 i hi).warm hW⟩
theorem SF.same {K V : Nat → Nat} {A : Nat → Prop} {u U : State} {H : Heap} (hv : U.vm = u.vm) (h : SF K V A u H) : SF K V A U H := by
  have ha : u.vm.Alike U.vm := by rw [hv]; exact Vm.Alike.refl u.vm
  exact ⟨vk_S.moved ha h.1, va_Z.moved ha h.2.1, va_Zq.moved ha h.2.2.1, fun i hi => (h.2.2.2 i hi).same hv⟩
def CSi (l : Launch) (y : MethodName) (ws : List Cond) (rm : Room) (avs : List Value) (D : va_G) (cy : Nat → ClassId) (K V : Nat → Nat) (sz : Nat) (W W' : va_W) (r : Int32) : Prop := Met l y ws rm (va_Pc avs (fun U => Bp D cy sz W U ∧ SF K V (va_A W sz) U U.heap)) (va_Qi (fun (r' : Int32) (_ : Unit) => r' = r) (fun _ => Bq D cy (va_A W sz) W') (va_A W sz)) 0 0 (va_A W sz)
def CSv (l : Launch) (y : MethodName) (ws : List Cond) (rm : Room) (avs : List Value) (D : va_G) (cy : Nat → ClassId) (K V : Nat → Nat) (sz : Nat) (W W' : va_W) : Prop := Met l y ws rm (va_Pc avs (fun U => Bp D cy sz W U ∧ SF K V (va_A W sz) U U.heap)) (va_Qv (fun (_ : Unit) => True) (fun _ => Bq D cy (va_A W sz) W') (va_A W sz)) 0 0 (va_A W sz)
theorem ct_oSi {l : Launch} {y : MethodName} {ws ws' : List Cond} {rm : Room} {avs : List Value} {D : va_G} {cy : Nat → ClassId} {K V : Nat → Nat} {sz : Nat} {W₀ W₁ : va_W} {r : Int32} {cc : ByteArray} {maxL : Nat} {ty : FieldType} {lv0 : List (Nat × Value)} (hy : plainName y.cls = true) (hw : ws = Cond.code y cc maxL (some ty) :: ws') (havs : (lg_sl avs).length ≤ maxL) (hlv : lv_args 0 avs = lv0)
    (k : ∀ (p : Program) (e : Env) (s : State) (m : MethodId) (args : Array Value) (below : List Frame) (meth : Method) (c : Code) (A : Nat → Prop) (Q : State → Prop) (ls : Array Slot), p.tables.exec = Jvm.exec → c.code = cc → (∀ w ∈ ws, w.before args s = true) → s.vm.findClass y.cls = some m.cls → c.maxLocals = maxL → SF K V A s s.heap → va_K D vwCl (tyA cy) s → va_P D vwCl W₀ s.heap → va_D A W₀ → va_S A s.heap s.heap [] → (∀ q : Nat, s.heap.size ≤ q → A q) →
      (∀ (pc : Nat) (H : Heap) (locs : List Loc) (ls : Array Slot) (v : Int32), decode cc pc = .ok (.ireturn, 1) → v = r → narrow ty (.int v) = .int v → va_P D vwCl W₁ H → va_D A W₁ → va_S A s.heap H locs → W p l e rm s m args below meth c H locs 0 0 Q (F0 m pc ls [.int v])) →
      lv_has ls maxL lv0 → W p l e rm s m args below meth c s.heap [] 0 0 Q (F0 m 0 ls [])) : CSi l y ws rm avs D cy K V sz W₀ W₁ r := by
  refine Met.ofW (cc := cc) (maxL := maxL) (ret := (some ty)) hy hw ?_
  intro p e s m args below meth c s₁ B hml hv
  obtain ⟨rfl, ⟨hsz, hP, hK, hD0⟩, hSF⟩ := hv
  subst hsz
  have hts := atoms_spec (ws := ws) B.pre
  have hlocks := B.notSynchronized
  have hD : va_D (va_A W₀ s.heap.size) W₀ := hD0.self (sz := s.heap.size)
  have hl := lv_entry avs (n := maxL) havs
  rw [hlv] at hl
  rw [lg_entry_eq]
  refine k p e s m _ below meth c _ _ _ B.exec B.bytes hts (findClass_of_methodNamed B.named) hml hSF hK hP hD va_S.rf (fun q h => Or.inr h) ?_ hl
  intro pc H locs ls v hdg hv hn hP hD hS
  exact W.zret (v := v) B.exec B.bytes B.returns hn (fun t ht hW => ⟨⟨v, (), rfl, hv, by rw [ht]; exact hP, va_K.moved hW.alike hK, hD⟩, hS.F ht⟩) hS.2.2 hdg hlocks
theorem ct_oSv {l : Launch} {y : MethodName} {ws ws' : List Cond} {rm : Room} {avs : List Value} {D : va_G} {cy : Nat → ClassId} {K V : Nat → Nat} {sz : Nat} {W₀ W₁ : va_W} {cc : ByteArray} {maxL : Nat} {lv0 : List (Nat × Value)} (hy : plainName y.cls = true) (hw : ws = Cond.code y cc maxL none :: ws') (havs : (lg_sl avs).length ≤ maxL) (hlv : lv_args 0 avs = lv0)
    (k : ∀ (p : Program) (e : Env) (s : State) (m : MethodId) (args : Array Value) (below : List Frame) (meth : Method) (c : Code) (A : Nat → Prop) (Q : State → Prop) (ls : Array Slot), p.tables.exec = Jvm.exec → c.code = cc → (∀ w ∈ ws, w.before args s = true) → s.vm.findClass y.cls = some m.cls → c.maxLocals = maxL → SF K V A s s.heap → va_K D vwCl (tyA cy) s → va_P D vwCl W₀ s.heap → va_D A W₀ → va_S A s.heap s.heap [] → (∀ q : Nat, s.heap.size ≤ q → A q) →
      (∀ (pc : Nat) (H : Heap) (locs : List Loc) (ls : Array Slot), decode cc pc = .ok (.return_, 1) → va_P D vwCl W₁ H → va_D A W₁ → va_S A s.heap H locs → W p l e rm s m args below meth c H locs 0 0 Q (F0 m pc ls [])) →
      lv_has ls maxL lv0 → W p l e rm s m args below meth c s.heap [] 0 0 Q (F0 m 0 ls [])) : CSv l y ws rm avs D cy K V sz W₀ W₁ := by
  refine Met.ofW (cc := cc) (maxL := maxL) (ret := none) hy hw ?_
  intro p e s m args below meth c s₁ B hml hv
  obtain ⟨rfl, ⟨hsz, hP, hK, hD0⟩, hSF⟩ := hv
  subst hsz
  have hts := atoms_spec (ws := ws) B.pre
  have hlocks := B.notSynchronized
  have hD : va_D (va_A W₀ s.heap.size) W₀ := hD0.self (sz := s.heap.size)
  have hl := lv_entry avs (n := maxL) havs
  rw [hlv] at hl
  rw [lg_entry_eq]
  refine k p e s m _ below meth c _ _ _ B.exec B.bytes hts (findClass_of_methodNamed B.named) hml hSF hK hP hD va_S.rf (fun q h => Or.inr h) ?_ hl
  intro pc H locs ls hdg hP hD hS
  exact W.vret B.exec B.bytes B.returns (fun t ht hW => ⟨⟨(), rfl, trivial, by rw [ht]; exact hP, va_K.moved hW.alike hK, hD⟩, hS.F ht⟩) hS.2.2 hdg hlocks
theorem cs_vi {p : Program} {l : Launch} {e : Env} {R : Room} {s : State} {m : MethodId} {args : Array Value} {below : List Frame} {meth : Method} {c : Code} {H : Heap} {locs : List Loc} {Q : State → Prop} {cc : ByteArray} {pc nL n index maxL : Nat} {ls : Array Slot} {rest st0 As : List Value} {D : va_G} {cy : Nat → ClassId} {A : Nat → Prop} {K V : Nat → Nat} {Ts wsM : List Cond} {own C : String} {y : MethodName} {bytes : ByteArray} {rm : Room} {ws wc w1 wr ws2 : va_W} {r : Int32} {b : Nat} {rt : Option FieldType} (hx : p.tables.exec = Jvm.exec) (hb : c.code = cc) (hml : c.maxLocals = nL) (hown : s.vm.findClass own = some m.cls) (hts : ∀ w ∈ Ts, w.before args s = true) (hM : ∀ sz, CSi l y wsM rm (.ref b :: As) D cy K V sz wc w1 r) (cw : CallW R s args own C index y bytes maxL rt wsM rm 0 0 n) (hSF : SF K V A s s.heap) (hK : va_K D vwCl (tyA cy) s) (hP : va_P D vwCl ws H) (hD : va_D A ws) (hS : va_S A s.heap H locs) (hA : ∀ q, s.heap.size ≤ q → A q) (hrv : ∃ cellB : Cell, H[b]? = some cellB ∧ cellB.vm.isStatics = false ∧ s.vm.findClass C = some cellB.cls) (hp1 : ws.Perm (wr ++ wc)) (hp2 : (wr ++ w1).Perm ws2) (hlen : As.length = n) (hst : st0 = As.reverse ++ .ref b :: rest) (hsz : ls.size = nL) (hrs : (rest.map fun v => v.category).sum ≤ 8) (hdg : decode cc pc = .ok (.invokevirtual index, 3)) (hfr : 0 ≤ R.cells ∧ 0 ≤ R.slots)
    (kk : ∀ (H1 : Heap) (locs1 : List Loc), va_P D vwCl ws2 H1 → va_D A ws2 → va_S A s.heap H1 locs1 → W p l e R s m args below meth c H1 locs1 0 0 Q (F0 m (pc + 3) ls (.int r :: rest))) : W p l e R s m args below meth c H locs 0 0 Q (F0 m pc ls st0) := by
  subst hst
  have hPp := vq_P hp1 hP
  have hDp := vq_D hp1 hD
  have hPc : va_P D vwCl wc H := fun k q hk => hPp (wr.length + k) q (by rw [List.getElem?_append_right (by omega), show wr.length + k - wr.length = k by omega]; exact hk)
  have hDc : va_D (fun _ => True) wc := ⟨fun i j p q hi hj he => by
    have := hDp.1 (wr.length + i) (wr.length + j) p q (by rw [List.getElem?_append_right (by omega), show wr.length + i - wr.length = i by omega]; exact hi) (by rw [List.getElem?_append_right (by omega), show wr.length + j - wr.length = j by omega]; exact hj) he
    omega, fun _ _ _ => trivial⟩
  have hFc := vq_free hDp hS hA
  refine va_calli (va_runV ⟨hx, hb, hml, hown, hts⟩ (hM H.size) cw ⟨fun a U g mk q => by obtain ⟨q0, ⟨q1, qP, qK, qD⟩, qS⟩ := q; exact ⟨q0, ⟨q1, qP, va_K.moved (u := U) (U := U.calling g mk a) (Vm.Alike.refl U.vm) qK, qD⟩, SF.same (u := U) (U := U.calling g mk a) rfl qS⟩, hrv, fun U hU hW => ⟨rfl, ⟨by rw [hU], by rw [hU]; exact hPc, va_K.moved hW.alike hK, hDc⟩, by rw [hU]; exact ((hSF.kept hS.2.1).narrow (fun q h => hFc q h)).warm hW⟩⟩ rfl hlen hsz rfl (lv_room hrs) hdg hfr) hS (fun q _ h => hFc q h) hFc (fun r1 u t H1 locs1 ht hvm hw hB hz1 hk1 hS1 => ?_)
  obtain ⟨hP1, -, hD1⟩ := hB
  rw [ht] at hP1
  obtain ⟨hPj, hDj⟩ := vq_join hPp hDp hk1 hFc hP1 hD1
  subst hw
  exact kk H1 locs1 (vq_P hp2 hPj) (vq_D hp2 hDj) hS1
theorem cs_vv {p : Program} {l : Launch} {e : Env} {R : Room} {s : State} {m : MethodId} {args : Array Value} {below : List Frame} {meth : Method} {c : Code} {H : Heap} {locs : List Loc} {Q : State → Prop} {cc : ByteArray} {pc nL n index maxL : Nat} {ls : Array Slot} {rest st0 As : List Value} {D : va_G} {cy : Nat → ClassId} {A : Nat → Prop} {K V : Nat → Nat} {Ts wsM : List Cond} {own C : String} {y : MethodName} {bytes : ByteArray} {rm : Room} {ws wc w1 wr ws2 : va_W} {b : Nat} {rt : Option FieldType} (hx : p.tables.exec = Jvm.exec) (hb : c.code = cc) (hml : c.maxLocals = nL) (hown : s.vm.findClass own = some m.cls) (hts : ∀ w ∈ Ts, w.before args s = true) (hM : ∀ sz, CSv l y wsM rm (.ref b :: As) D cy K V sz wc w1) (cw : CallW R s args own C index y bytes maxL rt wsM rm 0 0 n) (hSF : SF K V A s s.heap) (hK : va_K D vwCl (tyA cy) s) (hP : va_P D vwCl ws H) (hD : va_D A ws) (hS : va_S A s.heap H locs) (hA : ∀ q, s.heap.size ≤ q → A q) (hrv : ∃ cellB : Cell, H[b]? = some cellB ∧ cellB.vm.isStatics = false ∧ s.vm.findClass C = some cellB.cls) (hp1 : ws.Perm (wr ++ wc)) (hp2 : (wr ++ w1).Perm ws2) (hlen : As.length = n) (hst : st0 = As.reverse ++ .ref b :: rest) (hsz : ls.size = nL) (hrs : (rest.map fun v => v.category).sum ≤ 8) (hdg : decode cc pc = .ok (.invokevirtual index, 3)) (hfr : 0 ≤ R.cells ∧ 0 ≤ R.slots)
    (kk : ∀ (H1 : Heap) (locs1 : List Loc), va_P D vwCl ws2 H1 → va_D A ws2 → va_S A s.heap H1 locs1 → W p l e R s m args below meth c H1 locs1 0 0 Q (F0 m (pc + 3) ls (rest))) : W p l e R s m args below meth c H locs 0 0 Q (F0 m pc ls st0) := by
  subst hst
  have hPp := vq_P hp1 hP
  have hDp := vq_D hp1 hD
  have hPc : va_P D vwCl wc H := fun k q hk => hPp (wr.length + k) q (by rw [List.getElem?_append_right (by omega), show wr.length + k - wr.length = k by omega]; exact hk)
  have hDc : va_D (fun _ => True) wc := ⟨fun i j p q hi hj he => by
    have := hDp.1 (wr.length + i) (wr.length + j) p q (by rw [List.getElem?_append_right (by omega), show wr.length + i - wr.length = i by omega]; exact hi) (by rw [List.getElem?_append_right (by omega), show wr.length + j - wr.length = j by omega]; exact hj) he
    omega, fun _ _ _ => trivial⟩
  have hFc := vq_free hDp hS hA
  refine va_callv (va_runV ⟨hx, hb, hml, hown, hts⟩ (hM H.size) cw ⟨fun a U g mk q => by obtain ⟨q0, ⟨q1, qP, qK, qD⟩, qS⟩ := q; exact ⟨q0, ⟨q1, qP, va_K.moved (u := U) (U := U.calling g mk a) (Vm.Alike.refl U.vm) qK, qD⟩, SF.same (u := U) (U := U.calling g mk a) rfl qS⟩, hrv, fun U hU hW => ⟨rfl, ⟨by rw [hU], by rw [hU]; exact hPc, va_K.moved hW.alike hK, hDc⟩, by rw [hU]; exact ((hSF.kept hS.2.1).narrow (fun q h => hFc q h)).warm hW⟩⟩ rfl hlen hsz rfl (lv_room hrs) hdg hfr) hS (fun q _ h => hFc q h) hFc (fun u t H1 locs1 ht hvm hw hB hz1 hk1 hS1 => ?_)
  obtain ⟨hP1, -, hD1⟩ := hB
  rw [ht] at hP1
  obtain ⟨hPj, hDj⟩ := vq_join hPp hDp hk1 hFc hP1 hD1
  exact kk H1 locs1 (vq_P hp2 hPj) (vq_D hp2 hDj) hS1
theorem cs_si {p : Program} {l : Launch} {e : Env} {R : Room} {s : State} {m : MethodId} {args : Array Value} {below : List Frame} {meth : Method} {c : Code} {H : Heap} {locs : List Loc} {Q : State → Prop} {cc : ByteArray} {pc nL n index maxL : Nat} {ls : Array Slot} {rest st0 As : List Value} {D : va_G} {cy : Nat → ClassId} {A : Nat → Prop} {K V : Nat → Nat} {Ts wsM : List Cond} {own : String} {y : MethodName} {bytes : ByteArray} {rm : Room} {ws wc w1 wr ws2 : va_W} {r : Int32} {rt : Option FieldType} (hx : p.tables.exec = Jvm.exec) (hb : c.code = cc) (hml : c.maxLocals = nL) (hown : s.vm.findClass own = some m.cls) (hts : ∀ w ∈ Ts, w.before args s = true) (hM : ∀ sz, CSi l y wsM rm As D cy K V sz wc w1 r) (cw : CallB R s args own index y bytes maxL rt wsM rm 0 0 n ∧ (Cond.static y).before args s = true) (hSF : SF K V A s s.heap) (hK : va_K D vwCl (tyA cy) s) (hP : va_P D vwCl ws H) (hD : va_D A ws) (hS : va_S A s.heap H locs) (hA : ∀ q, s.heap.size ≤ q → A q) (hp1 : ws.Perm (wr ++ wc)) (hp2 : (wr ++ w1).Perm ws2) (hlen : As.length = n) (hst : st0 = As.reverse ++ rest) (hsz : ls.size = nL) (hrs : (rest.map fun v => v.category).sum ≤ 8) (hdg : decode cc pc = .ok (.invokestatic index, 3)) (hfr : 0 ≤ R.cells ∧ 0 ≤ R.slots)
    (kk : ∀ (H1 : Heap) (locs1 : List Loc), va_P D vwCl ws2 H1 → va_D A ws2 → va_S A s.heap H1 locs1 → W p l e R s m args below meth c H1 locs1 0 0 Q (F0 m (pc + 3) ls (.int r :: rest))) : W p l e R s m args below meth c H locs 0 0 Q (F0 m pc ls st0) := by
  subst hst
  have hPp := vq_P hp1 hP
  have hDp := vq_D hp1 hD
  have hPc : va_P D vwCl wc H := fun k q hk => hPp (wr.length + k) q (by rw [List.getElem?_append_right (by omega), show wr.length + k - wr.length = k by omega]; exact hk)
  have hDc : va_D (fun _ => True) wc := ⟨fun i j p q hi hj he => by
    have := hDp.1 (wr.length + i) (wr.length + j) p q (by rw [List.getElem?_append_right (by omega), show wr.length + i - wr.length = i by omega]; exact hi) (by rw [List.getElem?_append_right (by omega), show wr.length + j - wr.length = j by omega]; exact hj) he
    omega, fun _ _ _ => trivial⟩
  have hFc := vq_free hDp hS hA
  refine va_calli (va_runS ⟨hx, hb, hml, hown, hts⟩ (hM H.size) cw ⟨fun a U g mk q => by obtain ⟨q0, ⟨q1, qP, qK, qD⟩, qS⟩ := q; exact ⟨q0, ⟨q1, qP, va_K.moved (u := U) (U := U.calling g mk a) (Vm.Alike.refl U.vm) qK, qD⟩, SF.same (u := U) (U := U.calling g mk a) rfl qS⟩, fun U hU hW => ⟨rfl, ⟨by rw [hU], by rw [hU]; exact hPc, va_K.moved hW.alike hK, hDc⟩, by rw [hU]; exact ((hSF.kept hS.2.1).narrow (fun q h => hFc q h)).warm hW⟩⟩ rfl hlen hsz rfl (lv_room hrs) hdg hfr) hS (fun q _ h => hFc q h) hFc (fun r1 u t H1 locs1 ht hvm hw hB hz1 hk1 hS1 => ?_)
  obtain ⟨hP1, -, hD1⟩ := hB
  rw [ht] at hP1
  obtain ⟨hPj, hDj⟩ := vq_join hPp hDp hk1 hFc hP1 hD1
  subst hw
  exact kk H1 locs1 (vq_P hp2 hPj) (vq_D hp2 hDj) hS1
theorem cs_sv {p : Program} {l : Launch} {e : Env} {R : Room} {s : State} {m : MethodId} {args : Array Value} {below : List Frame} {meth : Method} {c : Code} {H : Heap} {locs : List Loc} {Q : State → Prop} {cc : ByteArray} {pc nL n index maxL : Nat} {ls : Array Slot} {rest st0 As : List Value} {D : va_G} {cy : Nat → ClassId} {A : Nat → Prop} {K V : Nat → Nat} {Ts wsM : List Cond} {own : String} {y : MethodName} {bytes : ByteArray} {rm : Room} {ws wc w1 wr ws2 : va_W} {rt : Option FieldType} (hx : p.tables.exec = Jvm.exec) (hb : c.code = cc) (hml : c.maxLocals = nL) (hown : s.vm.findClass own = some m.cls) (hts : ∀ w ∈ Ts, w.before args s = true) (hM : ∀ sz, CSv l y wsM rm As D cy K V sz wc w1) (cw : CallB R s args own index y bytes maxL rt wsM rm 0 0 n ∧ (Cond.static y).before args s = true) (hSF : SF K V A s s.heap) (hK : va_K D vwCl (tyA cy) s) (hP : va_P D vwCl ws H) (hD : va_D A ws) (hS : va_S A s.heap H locs) (hA : ∀ q, s.heap.size ≤ q → A q) (hp1 : ws.Perm (wr ++ wc)) (hp2 : (wr ++ w1).Perm ws2) (hlen : As.length = n) (hst : st0 = As.reverse ++ rest) (hsz : ls.size = nL) (hrs : (rest.map fun v => v.category).sum ≤ 8) (hdg : decode cc pc = .ok (.invokestatic index, 3)) (hfr : 0 ≤ R.cells ∧ 0 ≤ R.slots)
    (kk : ∀ (H1 : Heap) (locs1 : List Loc), va_P D vwCl ws2 H1 → va_D A ws2 → va_S A s.heap H1 locs1 → W p l e R s m args below meth c H1 locs1 0 0 Q (F0 m (pc + 3) ls (rest))) : W p l e R s m args below meth c H locs 0 0 Q (F0 m pc ls st0) := by
  subst hst
  have hPp := vq_P hp1 hP
  have hDp := vq_D hp1 hD
  have hPc : va_P D vwCl wc H := fun k q hk => hPp (wr.length + k) q (by rw [List.getElem?_append_right (by omega), show wr.length + k - wr.length = k by omega]; exact hk)
  have hDc : va_D (fun _ => True) wc := ⟨fun i j p q hi hj he => by
    have := hDp.1 (wr.length + i) (wr.length + j) p q (by rw [List.getElem?_append_right (by omega), show wr.length + i - wr.length = i by omega]; exact hi) (by rw [List.getElem?_append_right (by omega), show wr.length + j - wr.length = j by omega]; exact hj) he
    omega, fun _ _ _ => trivial⟩
  have hFc := vq_free hDp hS hA
  refine va_callv (va_runS ⟨hx, hb, hml, hown, hts⟩ (hM H.size) cw ⟨fun a U g mk q => by obtain ⟨q0, ⟨q1, qP, qK, qD⟩, qS⟩ := q; exact ⟨q0, ⟨q1, qP, va_K.moved (u := U) (U := U.calling g mk a) (Vm.Alike.refl U.vm) qK, qD⟩, SF.same (u := U) (U := U.calling g mk a) rfl qS⟩, fun U hU hW => ⟨rfl, ⟨by rw [hU], by rw [hU]; exact hPc, va_K.moved hW.alike hK, hDc⟩, by rw [hU]; exact ((hSF.kept hS.2.1).narrow (fun q h => hFc q h)).warm hW⟩⟩ rfl hlen hsz rfl (lv_room hrs) hdg hfr) hS (fun q _ h => hFc q h) hFc (fun u t H1 locs1 ht hvm hw hB hz1 hk1 hS1 => ?_)
  obtain ⟨hP1, -, hD1⟩ := hB
  rw [ht] at hP1
  obtain ⟨hPj, hDj⟩ := vq_join hPp hDp hk1 hFc hP1 hD1
  exact kk H1 locs1 (vq_P hp2 hPj) (vq_D hp2 hDj) hS1
abbrev rj0 : Room := { frames := 0, cells := 0, slots := 0, locals := 0 }
abbrev rj1 : Room := { frames := 1, cells := 0, slots := 0, locals := 40 }
abbrev rj2 : Room := { frames := 2, cells := 0, slots := 0, locals := 80 }
abbrev rj3 : Room := { frames := 3, cells := 0, slots := 0, locals := 120 }
def chS (i : Nat) (k : Int32) : Int32 := ((((bytS.getD i []).getD k.toNatClampNeg 0) &&& 255).toUInt32 % 65536).toInt32
theorem cj_coder (l : Launch) (D : va_G) (cy : Nat → ClassId) (K V : Nat → Nat) {i : Nat} (hi : i < 6) (sz : Nat) : CSi l yJ0_coder_7d493 wsJ0_coder_7d493 rj0 [.ref (K i)] D cy K V sz [] [] 0 := by
  refine ct_oSi (cc := cJ0_coder_7d493) (maxL := 1) (ty := .byte) (by decide +kernel) rfl (Nat.le_of_ble_eq_true rfl) (lv0 := [(0, .ref (K i))]) rfl ?_
  intro p e s m args below meth c A Q ls hx hb hts hown hml hSF hK hP hD hS hA hret hl
  have hown : s.vm.findClass RJ0 = some m.cls := hown
  refine va_gets hx hb hSF.2.1 hS hown (hts (.fieldLink RJ0 38 "java/lang/String" "COMPACT_STRINGS" "Z") (List.mem_of_getElem? (i := 1) rfl)) (fun _ h => h) dJ0_coder_7d493_0 ?_
  refine lv_if_eq (tgt := 13) hx hb dJ0_coder_7d493_3 (by decide) (fun c3 => ?_) (fun c3 => ?_)
  · exact absurd c3 (by decide)
  · refine lv_aload_n hx hb dJ0_coder_7d493_6 rfl (lv_at hl 0 rfl) ?_
    refine vk_getf hx hb (hSF.1.1 i hi).2.1 hS hown (hts (.fieldLink RJ0 15 "java/lang/String" "coder" "B") (List.mem_of_getElem? (i := 2) rfl)) (fun _ h => h) dJ0_coder_7d493_7 ?_
    refine lv_goto (tgt := 14) hx hb dJ0_coder_7d493_10 (by decide) ?_
    exact hret _ _ _ _ _ dJ0_coder_7d493_14 rfl rfl hP hD hS
theorem cj_isLatin1 (l : Launch) (D : va_G) (cy : Nat → ClassId) (K V : Nat → Nat) {i : Nat} (hi : i < 6) (sz : Nat) : CSi l yJ0_isLatin1_aae02 wsJ0_isLatin1_aae02 rj0 [.ref (K i)] D cy K V sz [] [] 1 := by
  refine ct_oSi (cc := cJ0_isLatin1_aae02) (maxL := 1) (ty := .boolean) (by decide +kernel) rfl (Nat.le_of_ble_eq_true rfl) (lv0 := [(0, .ref (K i))]) rfl ?_
  intro p e s m args below meth c A Q ls hx hb hts hown hml hSF hK hP hD hS hA hret hl
  have hown : s.vm.findClass RJ0 = some m.cls := hown
  refine va_gets hx hb hSF.2.1 hS hown (hts (.fieldLink RJ0 38 "java/lang/String" "COMPACT_STRINGS" "Z") (List.mem_of_getElem? (i := 1) rfl)) (fun _ h => h) dJ0_isLatin1_aae02_0 ?_
  refine lv_if_eq (tgt := 17) hx hb dJ0_isLatin1_aae02_3 (by decide) (fun c3 => ?_) (fun c3 => ?_)
  · exact absurd c3 (by decide)
  · refine lv_aload_n hx hb dJ0_isLatin1_aae02_6 rfl (lv_at hl 0 rfl) ?_
    refine vk_getf hx hb (hSF.1.1 i hi).2.1 hS hown (hts (.fieldLink RJ0 15 "java/lang/String" "coder" "B") (List.mem_of_getElem? (i := 2) rfl)) (fun _ h => h) dJ0_isLatin1_aae02_7 ?_
    refine lv_if_ne (tgt := 17) hx hb dJ0_isLatin1_aae02_10 (by decide) (fun c10 => ?_) (fun c10 => ?_)
    · exact absurd rfl c10
    · refine lv_iconst (v := 1) hx hb dJ0_isLatin1_aae02_13 (by decide) ?_
      refine lv_goto (tgt := 18) hx hb dJ0_isLatin1_aae02_14 (by decide) ?_
      exact hret _ _ _ _ _ dJ0_isLatin1_aae02_18 rfl rfl hP hD hS
theorem sl_len {i : Nat} (hi : i < 6) : lenS.getD i 0 < 9 := by
  rcases (show i = 0 ∨ i = 1 ∨ i = 2 ∨ i = 3 ∨ i = 4 ∨ i = 5 by omega) with rfl | rfl | rfl | rfl | rfl | rfl <;> decide
theorem cj_length (l : Launch) (D : va_G) (cy : Nat → ClassId) (K V : Nat → Nat) {i : Nat} (hi : i < 6) (sz : Nat) : CSi l yJ0_length_8abf5 wsJ0_length_8abf5 rj1 [.ref (K i)] D cy K V sz [] [] (nI (lenS.getD i 0)) := by
  refine ct_oSi (cc := cJ0_length_8abf5) (maxL := 1) (ty := .int) (by decide +kernel) rfl (Nat.le_of_ble_eq_true rfl) (lv0 := [(0, .ref (K i))]) rfl ?_
  intro p e s m args below meth c A Q ls hx hb hts hown hml hSF hK hP hD hS hA hret hl
  have hown : s.vm.findClass RJ0 = some m.cls := hown
  refine lv_aload_n hx hb dJ0_length_8abf5_0 rfl (lv_at hl 0 rfl) ?_
  refine vk_getf hx hb (hSF.1.1 i hi).2.2.1 hS hown (hts (.fieldLink RJ0 9 "java/lang/String" "value" "[B") (List.mem_of_getElem? (i := 1) rfl)) (fun _ h => h) dJ0_length_8abf5_1 ?_
  refine va_tlen (v := nI (lenS.getD i 0)) hx hb (hSF.1.1 i hi).2.2.2 hS rfl dJ0_length_8abf5_4 ?_
  refine lv_aload_n hx hb dJ0_length_8abf5_5 rfl (lv_at hl 0 rfl) ?_
  refine cs_vi (As := []) (rest := [.int (nI (lenS.getD i 0))]) (wr := []) (ws2 := []) hx hb hml hown hts (cj_coder l D cy K V hi) (cwV 0 hts gJ0_length_8abf5_J0_coder_7d493 rfl rfl rfl (by decide +kernel) ⟨Nat.le_of_ble_eq_true rfl, Nat.le_of_ble_eq_true rfl⟩) hSF hK hP hD hS hA (vk_recv hSF.1 hi hS) (pm_x [] rfl rfl) (pm_x [] rfl rfl) rfl rfl hl.1 (Nat.le_of_ble_eq_true rfl) dJ0_length_8abf5_6 ⟨Nat.zero_le _, Nat.zero_le _⟩ (fun H locs hP hD hS => ?_)
  refine lv_ishr hx hb dJ0_length_8abf5_9 ?_
  exact hret _ _ _ _ _ dJ0_length_8abf5_10 (sc_shr0 (by
    have := sl_len hi
    omega)) rfl hP hD hS
theorem cj_check3_null (l : Launch) (D : va_G) (cy : Nat → ClassId) (K V : Nat → Nat) {a n : Int32} (ha : ¬ a < 0) (hn : a < n) (sz : Nat) : CSi l yJ3_checkIndex_8e157 wsJ3_checkIndex_8e157 rj0 [.int a, .int n, .null] D cy K V sz [] [] a := by
  refine ct_oSi (cc := cJ3_checkIndex_8e157) (maxL := 3) (ty := .int) (by decide +kernel) rfl (Nat.le_of_ble_eq_true rfl) (lv0 := [(0, .int a), (1, .int n), (2, .null)]) rfl ?_
  intro p e s m args below meth c A Q ls hx hb hts hown hml hSF hK hP hD hS hA hret hl
  refine lv_iload_n hx hb dJ3_checkIndex_8e157_0 rfl (lv_at hl 0 rfl) ?_
  refine lv_if_lt (tgt := 9) hx hb dJ3_checkIndex_8e157_1 (by decide) (fun c1 => ?_) (fun c1 => ?_)
  · exact absurd c1 ha
  · refine lv_iload_n hx hb dJ3_checkIndex_8e157_4 rfl (lv_at hl 0 rfl) ?_
    refine lv_iload_n hx hb dJ3_checkIndex_8e157_5 rfl (lv_at hl 1 rfl) ?_
    refine lv_icmp_lt (tgt := 16) hx hb dJ3_checkIndex_8e157_6 (by decide) (fun c6 => ?_) (fun c6 => ?_)
    · refine lv_iload_n hx hb dJ3_checkIndex_8e157_16 rfl (lv_at hl 0 rfl) ?_
      exact hret _ _ _ _ _ dJ3_checkIndex_8e157_17 rfl rfl hP hD hS
    · exact absurd hn c6
theorem cj_check3_ref (l : Launch) (D : va_G) (cy : Nat → ClassId) (K V : Nat → Nat) (q : Nat) {a n : Int32} (ha : ¬ a < 0) (hn : a < n) (sz : Nat) : CSi l yJ3_checkIndex_8e157 wsJ3_checkIndex_8e157 rj0 [.int a, .int n, .ref q] D cy K V sz [] [] a := by
  refine ct_oSi (cc := cJ3_checkIndex_8e157) (maxL := 3) (ty := .int) (by decide +kernel) rfl (Nat.le_of_ble_eq_true rfl) (lv0 := [(0, .int a), (1, .int n), (2, .ref q)]) rfl ?_
  intro p e s m args below meth c A Q ls hx hb hts hown hml hSF hK hP hD hS hA hret hl
  refine lv_iload_n hx hb dJ3_checkIndex_8e157_0 rfl (lv_at hl 0 rfl) ?_
  refine lv_if_lt (tgt := 9) hx hb dJ3_checkIndex_8e157_1 (by decide) (fun c1 => ?_) (fun c1 => ?_)
  · exact absurd c1 ha
  · refine lv_iload_n hx hb dJ3_checkIndex_8e157_4 rfl (lv_at hl 0 rfl) ?_
    refine lv_iload_n hx hb dJ3_checkIndex_8e157_5 rfl (lv_at hl 1 rfl) ?_
    refine lv_icmp_lt (tgt := 16) hx hb dJ3_checkIndex_8e157_6 (by decide) (fun c6 => ?_) (fun c6 => ?_)
    · refine lv_iload_n hx hb dJ3_checkIndex_8e157_16 rfl (lv_at hl 0 rfl) ?_
      exact hret _ _ _ _ _ dJ3_checkIndex_8e157_17 rfl rfl hP hD hS
    · exact absurd hn c6
theorem cj_check0 (l : Launch) (D : va_G) (cy : Nat → ClassId) (K V : Nat → Nat) {a n : Int32} (ha : ¬ a < 0) (hn : a < n) (sz : Nat) : CSv l yJ0_checkIndex_df160 wsJ0_checkIndex_df160 rj1 [.int a, .int n] D cy K V sz [] [] := by
  refine ct_oSv (cc := cJ0_checkIndex_df160) (maxL := 2) (by decide +kernel) rfl (Nat.le_of_ble_eq_true rfl) (lv0 := [(0, .int a), (1, .int n)]) rfl ?_
  intro p e s m args below meth c A Q ls hx hb hts hown hml hSF hK hP hD hS hA hret hl
  have hown : s.vm.findClass RJ0 = some m.cls := hown
  refine lv_iload_n hx hb dJ0_checkIndex_df160_0 rfl (lv_at hl 0 rfl) ?_
  refine lv_iload_n hx hb dJ0_checkIndex_df160_1 rfl (lv_at hl 1 rfl) ?_
  rcases hSF.2.2.1 with hz | ⟨q, hz⟩
  · refine va_gets hx hb hz hS hown (hts (.fieldLink RJ0 1053 "jdk/internal/util/Preconditions" "SIOOBE_FORMATTER" "Ljava/util/function/BiFunction;") (List.mem_of_getElem? (i := 1) rfl)) (fun _ h => h) dJ0_checkIndex_df160_2 ?_
    refine cs_si (As := [.int a, .int n, .null]) (rest := []) (wr := []) (ws2 := []) hx hb hml hown hts (cj_check3_null l D cy K V ha hn) (va_cwS 3 hts gJ0_checkIndex_df160_J3_checkIndex_8e157 rfl rfl rfl (by decide +kernel) ⟨Nat.le_of_ble_eq_true rfl, Nat.le_of_ble_eq_true rfl⟩) hSF hK hP hD hS hA (pm_x [] rfl rfl) (pm_x [] rfl rfl) rfl rfl hl.1 (Nat.le_of_ble_eq_true rfl) dJ0_checkIndex_df160_5 ⟨Nat.zero_le _, Nat.zero_le _⟩ (fun H locs hP hD hS => ?_)
    refine lv_pop hx hb dJ0_checkIndex_df160_8 rfl ?_
    exact hret _ _ _ _ dJ0_checkIndex_df160_9 hP hD hS
  · refine va_gets hx hb hz hS hown (hts (.fieldLink RJ0 1053 "jdk/internal/util/Preconditions" "SIOOBE_FORMATTER" "Ljava/util/function/BiFunction;") (List.mem_of_getElem? (i := 1) rfl)) (fun _ h => h) dJ0_checkIndex_df160_2 ?_
    refine cs_si (As := [.int a, .int n, .ref q]) (rest := []) (wr := []) (ws2 := []) hx hb hml hown hts (cj_check3_ref l D cy K V q ha hn) (va_cwS 3 hts gJ0_checkIndex_df160_J3_checkIndex_8e157 rfl rfl rfl (by decide +kernel) ⟨Nat.le_of_ble_eq_true rfl, Nat.le_of_ble_eq_true rfl⟩) hSF hK hP hD hS hA (pm_x [] rfl rfl) (pm_x [] rfl rfl) rfl rfl hl.1 (Nat.le_of_ble_eq_true rfl) dJ0_checkIndex_df160_5 ⟨Nat.zero_le _, Nat.zero_le _⟩ (fun H locs hP hD hS => ?_)
    refine lv_pop hx hb dJ0_checkIndex_df160_8 rfl ?_
    exact hret _ _ _ _ dJ0_checkIndex_df160_9 hP hD hS
theorem sl_in {i : Nat} {k : Int32} (hi : i < 6) (hk : vp_in k (lenS.getD i 0)) : ¬ k < 0 ∧ k < nI (lenS.getD i 0) := by
  refine ⟨fun h => hk (Or.inl h), ?_⟩
  obtain ⟨j, hj, rfl⟩ := vp_in_of hk (by have := sl_len hi; omega)
  exact nI_lt hj (by have := sl_len hi; omega)
theorem cj_charAt1 (l : Launch) (D : va_G) (cy : Nat → ClassId) (K V : Nat → Nat) {i : Nat} (hi : i < 6) {k : Int32} (hk : vp_in k (lenS.getD i 0)) (sz : Nat) : CSi l yJ1_charAt_3b067 wsJ1_charAt_3b067 rj2 [.ref (V i), .int k] D cy K V sz [] [] (chS i k) := by
  refine ct_oSi (cc := cJ1_charAt_3b067) (maxL := 2) (ty := .char) (by decide +kernel) rfl (Nat.le_of_ble_eq_true rfl) (lv0 := [(0, .ref (V i)), (1, .int k)]) rfl ?_
  intro p e s m args below meth c A Q ls hx hb hts hown hml hSF hK hP hD hS hA hret hl
  have hown : s.vm.findClass RJ1 = some m.cls := hown
  refine lv_iload_n hx hb dJ1_charAt_3b067_0 rfl (lv_at hl 1 rfl) ?_
  refine lv_aload_n hx hb dJ1_charAt_3b067_1 rfl (lv_at hl 0 rfl) ?_
  refine va_tlen (v := nI (lenS.getD i 0)) hx hb (hSF.1.1 i hi).2.2.2 hS rfl dJ1_charAt_3b067_2 ?_
  refine cs_sv (As := [.int k, .int (nI (lenS.getD i 0))]) (rest := []) (wr := []) (ws2 := []) hx hb hml hown hts (cj_check0 l D cy K V (sl_in hi hk).1 (sl_in hi hk).2) (va_cwS 2 hts gJ1_charAt_3b067_J0_checkIndex_df160 rfl rfl rfl (by decide +kernel) ⟨Nat.le_of_ble_eq_true rfl, Nat.le_of_ble_eq_true rfl⟩) hSF hK hP hD hS hA (pm_x [] rfl rfl) (pm_x [] rfl rfl) rfl rfl hl.1 (Nat.le_of_ble_eq_true rfl) dJ1_charAt_3b067_3 ⟨Nat.zero_le _, Nat.zero_le _⟩ (fun H locs hP hD hS => ?_)
  refine lv_aload_n hx hb dJ1_charAt_3b067_6 rfl (lv_at hl 0 rfl) ?_
  refine lv_iload_n hx hb dJ1_charAt_3b067_7 rfl (lv_at hl 1 rfl) ?_
  refine va_tb (v := .int ((bytS.getD i []).getD k.toNatClampNeg 0)) hx hb (hSF.1.1 i hi).2.2.2 hS hk rfl dJ1_charAt_3b067_8 ?_
  refine lv_sipush (v := 255) hx hb dJ1_charAt_3b067_9 (by decide) ?_
  refine lv_iand hx hb dJ1_charAt_3b067_12 ?_
  refine lv_i2c (v := chS i k) hx hb dJ1_charAt_3b067_13 rfl ?_
  exact hret _ _ _ _ _ dJ1_charAt_3b067_14 rfl (pk_nc _) hP hD hS
theorem cj_charAt (l : Launch) (D : va_G) (cy : Nat → ClassId) (K V : Nat → Nat) {i : Nat} (hi : i < 6) {k : Int32} (hk : vp_in k (lenS.getD i 0)) (sz : Nat) : CSi l yJ0_charAt_5068e wsJ0_charAt_5068e rj3 [.ref (K i), .int k] D cy K V sz [] [] (chS i k) := by
  refine ct_oSi (cc := cJ0_charAt_5068e) (maxL := 2) (ty := .char) (by decide +kernel) rfl (Nat.le_of_ble_eq_true rfl) (lv0 := [(0, .ref (K i)), (1, .int k)]) rfl ?_
  intro p e s m args below meth c A Q ls hx hb hts hown hml hSF hK hP hD hS hA hret hl
  have hown : s.vm.findClass RJ0 = some m.cls := hown
  refine lv_aload_n hx hb dJ0_charAt_5068e_0 rfl (lv_at hl 0 rfl) ?_
  refine cs_vi (As := []) (rest := []) (wr := []) (ws2 := []) hx hb hml hown hts (cj_isLatin1 l D cy K V hi) (cwV 0 hts gJ0_charAt_5068e_J0_isLatin1_aae02 rfl rfl rfl (by decide +kernel) ⟨Nat.le_of_ble_eq_true rfl, Nat.le_of_ble_eq_true rfl⟩) hSF hK hP hD hS hA (vk_recv hSF.1 hi hS) (pm_x [] rfl rfl) (pm_x [] rfl rfl) rfl rfl hl.1 (Nat.le_of_ble_eq_true rfl) dJ0_charAt_5068e_1 ⟨Nat.zero_le _, Nat.zero_le _⟩ (fun H locs hP hD hS => ?_)
  refine lv_if_eq (tgt := 16) hx hb dJ0_charAt_5068e_4 (by decide) (fun c4 => ?_) (fun c4 => ?_)
  · exact absurd c4 (by decide)
  · refine lv_aload_n hx hb dJ0_charAt_5068e_7 rfl (lv_at hl 0 rfl) ?_
    refine vk_getf hx hb (hSF.1.1 i hi).2.2.1 hS hown (hts (.fieldLink RJ0 9 "java/lang/String" "value" "[B") (List.mem_of_getElem? (i := 1) rfl)) (fun _ h => h) dJ0_charAt_5068e_8 ?_
    refine lv_iload_n hx hb dJ0_charAt_5068e_11 rfl (lv_at hl 1 rfl) ?_
    refine cs_si (As := [.ref (V i), .int k]) (rest := []) (wr := []) (ws2 := []) hx hb hml hown hts (cj_charAt1 l D cy K V hi hk) (va_cwS 2 hts gJ0_charAt_5068e_J1_charAt_3b067 rfl rfl rfl (by decide +kernel) ⟨Nat.le_of_ble_eq_true rfl, Nat.le_of_ble_eq_true rfl⟩) hSF hK hP hD hS hA (pm_x [] rfl rfl) (pm_x [] rfl rfl) rfl rfl hl.1 (Nat.le_of_ble_eq_true rfl) dJ0_charAt_5068e_12 ⟨Nat.zero_le _, Nat.zero_le _⟩ (fun H locs hP hD hS => ?_)
    exact hret _ _ _ _ _ dJ0_charAt_5068e_15 rfl (pk_nc _) hP hD hS
