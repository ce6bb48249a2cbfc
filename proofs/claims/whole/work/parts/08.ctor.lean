/-! constructors: what is made comes behind the cells that were there; the array classes are those of tyA -/
theorem cy_of {D : va_G} {cl : List vw_C} {cy : Nat → ClassId} {s : State} {cA : ClassId} {ty : FieldType} {k : Nat} (hk : (tyA cy)[k]? = some (cy k, ty)) (hob : ∀ C, ty ≠ .object C) (h : va_K D cl (tyA cy ++ [(cA, ty)]) s) : cA = cy k ∧ va_K D cl (tyA cy) s := by
  have h0 : va_K D cl (tyA cy) s := ⟨h.1, fun j q hj => h.2 j q (by rw [List.getElem?_append_left (List.getElem?_eq_some_iff.mp hj).1]; exact hj)⟩
  have h1 := (h.2 7 (cA, ty) rfl).2
  have h2 := (h0.2 k _ hk).2
  refine ⟨?_, h0⟩
  cases ty with
  | object C => exact absurd rfl (hob C)
  | _ => exact Option.some.inj (h1.symm.trans h2)
def EO (U : State) : Prop := va_AOA .int U ∧ va_AOA .long U
theorem EO.moved {u U : State} (hvm : u.vm.Alike U.vm) (h : EO u) : EO U := ⟨over_moved (a := #[]) (a' := #[]) hvm h.1, over_moved (a := #[]) (a' := #[]) hvm h.2⟩
theorem EO.same {u U : State} (h : u.vm = U.vm) (hE : EO u) : EO U := EO.moved (by rw [h]; exact Vm.Alike.refl U.vm) hE
def CTn (E : State → Prop) (l : Launch) (y : MethodName) (ws : List Cond) (rm : Room) (avs : List Value) (D : va_G) (cy : Nat → ClassId) (sz : Nat) (W : va_W) (Post : va_W → Prop) (mc ms : Nat) : Prop := Met l y ws rm (va_Pc avs (fun U => Bp D cy sz W U ∧ E U)) (va_Qv (fun (_ : Unit) => True) (fun _ t => ∃ w, Post w ∧ Bq D cy (va_A W sz) w t) (va_A W sz)) mc ms (va_A W sz)
theorem ct_on {E : State → Prop} {l : Launch} {y : MethodName} {ws ws' : List Cond} {rm : Room} {avs : List Value} {D : va_G} {cy : Nat → ClassId} {sz : Nat} {W₀ : va_W} {Post : va_W → Prop} {mc ms : Nat} {cc : ByteArray} {maxL : Nat} {lv0 : List (Nat × Value)} (hy : plainName y.cls = true) (hw : ws = Cond.code y cc maxL none :: ws') (havs : (lg_sl avs).length ≤ maxL) (hlv : lv_args 0 avs = lv0)
    (k : ∀ (p : Program) (e : Env) (s : State) (m : MethodId) (args : Array Value) (below : List Frame) (meth : Method) (c : Code) (A : Nat → Prop) (Q : State → Prop) (ls : Array Slot), p.tables.exec = Jvm.exec → c.code = cc → (∀ w ∈ ws, w.before args s = true) → s.vm.findClass y.cls = some m.cls → c.maxLocals = maxL → meth.name = y.name → E s → va_K D vwCl (tyA cy) s → va_P D vwCl W₀ s.heap → va_D A W₀ → va_S A s.heap s.heap [] → (∀ q : Nat, s.heap.size ≤ q → A q) →
      (∀ (pc : Nat) (H : Heap) (locs : List Loc) (ls : Array Slot) (w : va_W), decode cc pc = .ok (.return_, 1) → Post w → va_P D vwCl w H → va_D A w → va_S A s.heap H locs → W p l e rm s m args below meth c H locs mc ms Q (F0 m pc ls [])) →
      lv_has ls maxL lv0 → W p l e rm s m args below meth c s.heap [] 0 0 Q (F0 m 0 ls [])) : CTn E l y ws rm avs D cy sz W₀ Post mc ms := by
  refine Met.ofW (cc := cc) (maxL := maxL) (ret := none) hy hw ?_
  intro p e s m args below meth c s₁ B hml hv
  obtain ⟨rfl, ⟨hsz, hP, hK, hD0⟩, hE⟩ := hv
  subst hsz
  have hts := atoms_spec (ws := ws) B.pre
  have hlocks := B.notSynchronized
  have hD : va_D (va_A W₀ s.heap.size) W₀ := hD0.self (sz := s.heap.size)
  have hl := lv_entry avs (n := maxL) havs
  rw [hlv] at hl
  rw [lg_entry_eq]
  refine k p e s m _ below meth c _ _ _ B.exec B.bytes hts (findClass_of_methodNamed B.named) hml (name_of_methodNamed B.named B.method).1 hE hK hP hD va_S.rf (fun q h => Or.inr h) ?_ hl
  intro pc H locs ls w hdg hp hP hD hS
  exact W.vret B.exec B.bytes B.returns (fun t ht hW => ⟨⟨(), rfl, trivial, w, hp, by rw [ht]; exact hP, va_K.moved hW.alike hK, hD⟩, hS.F ht⟩) hS.2.2 hdg hlocks
theorem cn_i {p : Program} {l : Launch} {e : Env} {R : Room} {s : State} {m : MethodId} {args : Array Value} {below : List Frame} {meth : Method} {c : Code} {H : Heap} {locs : List Loc} {Q : State → Prop} {cc : ByteArray} {pc nL index maxL cells slots mc ms : Nat} {ls : Array Slot} {rest st0 : List Value} {D : va_G} {cy : Nat → ClassId} {A : Nat → Prop} {H0 : Heap} {Ts wsM : List Cond} {own host : String} {y : MethodName} {bytes : ByteArray} {rm : Room} {ws wc wr : va_W} {Post : va_W → Prop} {b : Nat} {E : State → Prop} (hx : p.tables.exec = Jvm.exec) (hb : c.code = cc) (hml : c.maxLocals = nL) (hown : s.vm.findClass own = some m.cls) (hts : ∀ w ∈ Ts, w.before args s = true) (hM : ∀ sz, CTn E l y wsM rm [.ref b] D cy sz wc Post mc ms) (cw : CallB R s args own index y bytes maxL none wsM rm mc ms 0 ∧ y.name = "<init>" ∧ (Cond.instanceMethod y).before args s = true) (hEs : ∀ u U : State, u.vm = U.vm → E u → E U) (hEw : ∀ U : State, s.WarmedH U.vm → E U) (hK : va_K D vwCl (tyA cy) s) (hP : va_P D vwCl ws H) (hD : va_D A ws) (hS : va_S A H0 H locs) (hA : ∀ q, H0.size ≤ q → A q) (hp1 : ws.Perm (wr ++ wc)) (hst : st0 = .ref b :: rest) (hsz : ls.size = nL) (hrs : (rest.map fun v => v.category).sum ≤ 8) (hdg : decode cc pc = .ok (.invokespecial index, 3)) (hfr : cells + mc ≤ R.cells ∧ slots + ms ≤ R.slots)
    (kk : ∀ (H1 : Heap) (locs1 : List Loc) (w : va_W), Post w → va_P D vwCl (wr ++ w) H1 → va_D A (wr ++ w) → va_S A H0 H1 locs1 → W p l e R s m args below meth c H1 locs1 (cells + mc) (slots + ms) Q (F0 m (pc + 3) ls rest)) : W p l e R s m args below meth c H locs cells slots Q (F0 m pc ls st0) := by
  subst hst
  have hPp := vq_P hp1 hP
  have hDp := vq_D hp1 hD
  have hPc : va_P D vwCl wc H := fun k q hk => hPp (wr.length + k) q (by rw [List.getElem?_append_right (by omega), show wr.length + k - wr.length = k by omega]; exact hk)
  have hDc : va_D (fun _ => True) wc := ⟨fun i j p q hi hj he => by
    have := hDp.1 (wr.length + i) (wr.length + j) p q (by rw [List.getElem?_append_right (by omega), show wr.length + i - wr.length = i by omega]; exact hi) (by rw [List.getElem?_append_right (by omega), show wr.length + j - wr.length = j by omega]; exact hj) he
    omega, fun _ _ _ => trivial⟩
  have hFc := vq_free hDp hS hA
  refine va_callv (va_runI (As := []) ⟨hx, hb, hml, hown, hts⟩ (hM H.size) cw ⟨fun a U g mk q => by obtain ⟨q0, ⟨q1, qP, qK, qD⟩, qE⟩ := q; exact ⟨q0, ⟨q1, qP, va_K.moved (u := U) (U := U.calling g mk a) (Vm.Alike.refl U.vm) qK, qD⟩, hEs U (U.calling g mk a) rfl qE⟩, fun U hU hW => ⟨rfl, ⟨by rw [hU], by rw [hU]; exact hPc, va_K.moved hW.alike hK, hDc⟩, hEw U hW⟩⟩ rfl rfl hsz rfl (lv_room hrs) hdg hfr) hS (fun q _ h => hFc q h) hFc (fun u t H1 locs1 ht hvm hw hB hz1 hk1 hS1 => ?_)
  obtain ⟨w, hpo, hP1, -, hD1⟩ := hB
  rw [ht] at hP1
  obtain ⟨hPj, hDj⟩ := vq_join hPp hDp hk1 hFc hP1 hD1
  exact kk H1 locs1 w hpo hPj hDj hS1
theorem cn_n {p : Program} {l : Launch} {e : Env} {R : Room} {s : State} {m : MethodId} {args : Array Value} {below : List Frame} {meth : Method} {c : Code} {H : Heap} {locs : List Loc} {Q : State → Prop} {cc : ByteArray} {pc nL index maxL cells slots mc ms : Nat} {ls : Array Slot} {rest st0 : List Value} {D : va_G} {cy : Nat → ClassId} {A : Nat → Prop} {H0 : Heap} {Ts wsM : List Cond} {own host : String} {y : MethodName} {bytes : ByteArray} {rm : Room} {ws wc wr : va_W} {Post : va_W → Prop} {b : Nat} {E : State → Prop} (hx : p.tables.exec = Jvm.exec) (hb : c.code = cc) (hml : c.maxLocals = nL) (hown : s.vm.findClass own = some m.cls) (hts : ∀ w ∈ Ts, w.before args s = true) (hM : ∀ sz, CTn E l y wsM rm [.ref b] D cy sz wc Post mc ms) (cw : va_CN R s args own index y host bytes maxL none wsM rm mc ms 0 ∧ y.name = "<init>" ∧ (Cond.instanceMethod y).before args s = true) (hEs : ∀ u U : State, u.vm = U.vm → E u → E U) (hEw : ∀ U : State, s.WarmedH U.vm → E U) (hK : va_K D vwCl (tyA cy) s) (hP : va_P D vwCl ws H) (hD : va_D A ws) (hS : va_S A H0 H locs) (hA : ∀ q, H0.size ≤ q → A q) (hp1 : ws.Perm (wr ++ wc)) (hst : st0 = .ref b :: rest) (hsz : ls.size = nL) (hrs : (rest.map fun v => v.category).sum ≤ 8) (hdg : decode cc pc = .ok (.invokespecial index, 3)) (hfr : cells + mc ≤ R.cells ∧ slots + ms ≤ R.slots)
    (kk : ∀ (H1 : Heap) (locs1 : List Loc) (w : va_W), Post w → va_P D vwCl (wr ++ w) H1 → va_D A (wr ++ w) → va_S A H0 H1 locs1 → W p l e R s m args below meth c H1 locs1 (cells + mc) (slots + ms) Q (F0 m (pc + 3) ls rest)) : W p l e R s m args below meth c H locs cells slots Q (F0 m pc ls st0) := by
  subst hst
  have hPp := vq_P hp1 hP
  have hDp := vq_D hp1 hD
  have hPc : va_P D vwCl wc H := fun k q hk => hPp (wr.length + k) q (by rw [List.getElem?_append_right (by omega), show wr.length + k - wr.length = k by omega]; exact hk)
  have hDc : va_D (fun _ => True) wc := ⟨fun i j p q hi hj he => by
    have := hDp.1 (wr.length + i) (wr.length + j) p q (by rw [List.getElem?_append_right (by omega), show wr.length + i - wr.length = i by omega]; exact hi) (by rw [List.getElem?_append_right (by omega), show wr.length + j - wr.length = j by omega]; exact hj) he
    omega, fun _ _ _ => trivial⟩
  have hFc := vq_free hDp hS hA
  refine va_callv (va_runIN (As := []) ⟨hx, hb, hml, hown, hts⟩ (hM H.size) cw ⟨fun a U g mk q => by obtain ⟨q0, ⟨q1, qP, qK, qD⟩, qE⟩ := q; exact ⟨q0, ⟨q1, qP, va_K.moved (u := U) (U := U.calling g mk a) (Vm.Alike.refl U.vm) qK, qD⟩, hEs U (U.calling g mk a) rfl qE⟩, fun U hU hW => ⟨rfl, ⟨by rw [hU], by rw [hU]; exact hPc, va_K.moved hW.alike hK, hDc⟩, hEw U hW⟩⟩ rfl rfl hsz rfl (lv_room hrs) hdg hfr) hS (fun q _ h => hFc q h) hFc (fun u t H1 locs1 ht hvm hw hB hz1 hk1 hS1 => ?_)
  obtain ⟨w, hpo, hP1, -, hD1⟩ := hB
  rw [ht] at hP1
  obtain ⟨hPj, hDj⟩ := vq_join hPp hDp hk1 hFc hP1 hD1
  exact kk H1 locs1 w hpo hPj hDj hS1
section VMN
variable {p : Program} {l : Launch} {e : Env} {R : Room} {s : State} {m : MethodId} {args : Array Value} {below : List Frame} {meth : Method} {c : Code} {H : Heap} {locs : List Loc} {cells slots : Nat} {Q : State → Prop}
variable {cc : ByteArray} {pc : Nat} {ls : Array Slot} {rest : List Value} {D : va_G} {cl : List vw_C} {A : Nat → Prop} {H0 : Heap}
theorem wv_newa {atype : ArrayType} {ty : FieldType} {cy : Nat → ClassId} {ws : va_W} {k : Nat} (hx : p.tables.exec = Jvm.exec) (hb : c.code = cc) (harr : (Cond.arrayClass (newarray.typeOf atype)).before args s = true) (hty : newarray.typeOf atype = ty) (hk : (tyA cy)[k]? = some (cy k, ty)) (hob : ∀ C, ty ≠ .object C) (hK : va_K D cl (tyA cy) s) (hP : va_P D cl ws H) (hD : va_D A ws) (hS : va_S A H0 H locs) (hA : ∀ q, H0.size ≤ q → A q)
    {n : Int32} {N' : Nat} {a0 : vp_A} (ha : ∀ cA : ClassId, vp_cell cA a0 = arrV cA N' (fun _ => defaultValue ty)) (hn : ¬ n < 0) (hN : n.toNatClampNeg = N') (hbytes : N' * componentBytes ty ≤ 536870912) (hcells : cells + 1 ≤ R.cells) (hslots : slots + N' ≤ R.slots) (hdg : decode cc pc = .ok (.newarray atype, 2))
    (kk : ∀ (q : Nat) (H1 : Heap), va_P D cl (ws ++ [(q, .inl (cy k, a0))]) H1 → va_D A (ws ++ [(q, .inl (cy k, a0))]) → va_S A H0 H1 locs → W p l e R s m args below meth c H1 locs (cells + 1) (slots + N') Q (F0 m (pc + 2) ls (.ref q :: rest))) : W p l e R s m args below meth c H locs cells slots Q (F0 m pc ls (.int n :: rest)) := by
  refine va_newa hx hb harr hty hK hP hD hS hA ha hn hN hbytes hcells hslots hdg fun q cA H1 h1 h2 h3 h4 => ?_
  obtain ⟨rfl, -⟩ := cy_of hk hob h1
  exact kk q H1 h2 h3 h4
theorem gW_pl (r : Nat → Nat) (n : Nat) (f : Nat → va_E) (e : va_E) : va_pl ([] ++ (List.range n).map r) (vr_up f ((List.range n).map r) e) = (List.range n).map (fun i => (r i, e)) := by
  unfold va_pl
  rw [List.nil_append, List.map_map]
  apply List.map_congr_left
  intro i hi
  show (r i, vr_up f ((List.range n).map r) e (r i)) = (r i, e)
  rw [vr_up_in (List.mem_map.mpr ⟨i, hi, rfl⟩)]
theorem wv_mna {own : String} {index ko ki : Nat} {ty : FieldType} {cy : Nat → ClassId} {ws : va_W} (hx : p.tables.exec = Jvm.exec) (hb : c.code = cc) (hown : s.vm.findClass own = some m.cls) (hclink : (Cond.classLink own index ("[" ++ (FieldType.array ty).toString)).before args s = true) (hover : va_AOA ty s) (harr : (Cond.arrayClass ty).before args s = true) (hko : (tyA cy)[ko]? = some (cy ko, .array ty)) (hki : (tyA cy)[ki]? = some (cy ki, ty)) (hob : ∀ C, ty ≠ .object C)
    (hfc : va_RA s (cy ki) ty → s.vm.findClass (FieldType.array ty).toString = some (cy ki)) (hK : va_K D cl (tyA cy) s) (hP : va_P D cl ws H) (hD : va_D A ws) (hS : va_S A H0 H locs) (hA : ∀ q, H0.size ≤ q → A q) {n k : Int32} {N' K' : Nat} {z : vp_A} (hn : ¬ n < 0) (hk : ¬ k < 0) (hN : n.toNatClampNeg = N') (hM : k.toNatClampNeg = K')
    (hb1 : N' * 4 ≤ 536870912) (hb2 : K' * componentBytes ty ≤ 536870912) (hb3 : K' ≤ 536870912) (hdf : fits ty (defaultValue ty) = true) (hdd : (defaultValue ty).isDefault = true) (hcells : cells + (1 + N') ≤ R.cells) (hslots : slots + (N' + N' * K') ≤ R.slots) (hz : ∀ c : ClassId, Jvm.Free.Multi.innerC c K' (defaultValue ty) = vp_cell c z) (hdg : decode cc pc = .ok (.multianewarray index 2, 4))
    (kk : ∀ (q : Nat) (r : Nat → Nat) (H1 : Heap), va_P D cl ((ws ++ [(q, .inl (cy ko, N', gO N' r))]) ++ (List.range N').map (fun i => (r i, .inl (cy ki, z)))) H1 → va_D A ((ws ++ [(q, .inl (cy ko, N', gO N' r))]) ++ (List.range N').map (fun i => (r i, .inl (cy ki, z)))) → va_S A H0 H1 locs →
      W p l e R s m args below meth c H1 locs (cells + 1 + N') (slots + N' + N' * K') Q (F0 m (pc + 4) ls (.ref q :: rest))) : W p l e R s m args below meth c H locs cells slots Q (F0 m pc ls (.int k :: .int n :: rest)) := by
  have e0 : ws ++ va_pl [] (fun _ => .inr (0, [])) = ws := List.append_nil _
  refine va_mna (X := ws) (L := []) (f := fun _ => .inr (0, [])) (cy := cy ki) (z := z) hx hb hown hclink hover harr (hfc (hK.2 ki _ hki).2) hK (by rw [e0]; exact hP) (by rw [e0]; exact hD) hS hA hn hk hN hM hb1 hb2 hb3 hdf hdd hcells hslots hz hdg fun q r cA H1 _ _ h1 h2 h3 h4 => ?_
  obtain ⟨rfl, -⟩ := cy_of (k := ko) hko (fun C h => by cases h) h1
  rw [gW_pl] at h2 h3
  exact kk q r H1 h2 h3 h4
end VMN
theorem wv_zI (cA : ClassId) (n : Nat) : vp_cell cA (n, .inl (fun _ => 0)) = arrV cA n (fun _ => defaultValue .int) := rfl
theorem wv_zC (cA : ClassId) (n : Nat) : vp_cell cA (n, .inl (fun _ => 0)) = arrV cA n (fun _ => defaultValue .char) := rfl
theorem wv_zB (cA : ClassId) (n : Nat) : vp_cell cA (n, .inl (fun _ => 0)) = arrV cA n (fun _ => defaultValue .byte) := rfl
theorem wv_zZ (cA : ClassId) (n : Nat) : vp_cell cA (n, .inl (fun _ => 0)) = arrV cA n (fun _ => defaultValue .boolean) := rfl
theorem wv_zJ (cA : ClassId) (n : Nat) : vp_cell cA (n, .inr (.inl (fun _ => 0))) = arrV cA n (fun _ => defaultValue .long) := rfl
theorem wv_iI (cA : ClassId) (n : Nat) : Jvm.Free.Multi.innerC cA n (defaultValue .int) = vp_cell cA (n, .inl (fun _ => 0)) := by
  unfold Jvm.Free.Multi.innerC
  rw [arrV_new]; rfl
theorem wv_iJ (cA : ClassId) (n : Nat) : Jvm.Free.Multi.innerC cA n (defaultValue .long) = vp_cell cA (n, .inr (.inl (fun _ => 0))) := by
  unfold Jvm.Free.Multi.innerC
  rw [arrV_new]; rfl
def nest8 : List (Nat × MethodName) := [(22, yX0_init), (32, yX3_init), (39, yX6_init), (46, yX2_init), (59, yX5_init), (66, yX1_init), (73, yX7_init), (80, yX4_init)]
def EN8 (U : State) : Prop := EO U ∧ ∀ q ∈ nest8, va_Nw (.methodLinkNest RX8 q.1 q.2 RX8) U
theorem EN8.same (u U : State) (h : u.vm = U.vm) (hE : EN8 u) : EN8 U := ⟨EO.same h hE.1, fun q hq => (hE.2 q hq).same rfl h⟩
theorem EN8.warm {s : State} (hE : EN8 s) (U : State) (hW : s.WarmedH U.vm) : EN8 U := ⟨EO.moved hW.alike hE.1, fun q hq => (hE.2 q hq).warmM hW⟩
theorem pm_last {x : Nat × va_E} {X pl : va_W} : ((X ++ pl) ++ [x]).Perm ((X ++ [x]) ++ pl) := by
  rw [List.append_assoc, List.append_assoc]
  exact List.perm_append_comm.append_left X
theorem pm_lastn {X pl Y : va_W} : ((X ++ pl) ++ Y).Perm ((X ++ Y) ++ pl) := by
  rw [List.append_assoc, List.append_assoc]
  exact List.perm_append_comm.append_left X
theorem pm_last2 {x : Nat × va_E} {X pl pl2 : va_W} : (((X ++ pl) ++ [x]) ++ pl2).Perm ((X ++ [x]) ++ (pl ++ pl2)) := by
  rw [← List.append_assoc (X ++ [x])]
  exact pm_last.append_right pl2
theorem pm_two {X pl Y pl2 : va_W} : ((X ++ pl) ++ (Y ++ pl2)).Perm ((X ++ Y) ++ (pl ++ pl2)) := by
  rw [← List.append_assoc (X ++ pl), ← List.append_assoc (X ++ Y)]
  exact pm_lastn.append_right pl2
