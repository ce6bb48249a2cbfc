/-! THE CLAIM OUT OF ONE WALK OF THE LAW'S BODY. Your part is whole_start (and what it stands on); all else here is the same for every law, but numbers. -/
def R_law : String := "CaveYearsLaw"
def lw_P (b : Addr) (xs : List Int32) (args : Array Value) (s : State) : Prop := args = #[.ref b] ∧ s.IntsAt b xs ∧ xs.length ≤ 384 ∧ (Jvm.Cond.and given_1 narrow_1).before args s = true
def lw_Q (_ : Array Value) (s : State) (o : Outcome) (t : State) : Prop := o = .returned (some (.int 1)) ∧ Framed s o t [] 600000 7302250
def lw_Z (below : List Frame) (a : Array Value) (s : State) : State → Prop := fun t => ∃ o, t.status = .running ∧ Ended t below o ∧ lw_Q a s o t
/-- the law's own end, with 1 on the stack, nothing written that was there before, its room as the claim has it -/
theorem lw_ret {p : Program} {l : Launch} {e : Env} {s : State} {m : MethodId} {below : List Frame} {meth : Method} {c : Code} {b : Nat} (hx : p.tables.exec = Jvm.exec) (hb : c.code = code) (hr : meth.sig.returnType = ret) (hlocks : meth.locks = false) {pc : Nat} {H : Heap} {ls : Array Slot} (hdg : decode code pc = .ok (.ireturn, 1)) : W p l e room_1 s m #[Value.ref b] below meth c H [] 600000 7302250 (lw_Z below #[Value.ref b] s) (F0 m pc ls [.int 1]) := by
  intro T hT X
  obtain ⟨fs, hret, hrun, hended, hW, hframe⟩ := X.leave (v := some (.int 1)) (hlocks := hlocks) (fun h => by rw [hr] at h; cases h)
  have hmeth' : T.vm.method? m = some meth := X.method'
  refine ⟨T.setFrames fs, ?_, .returned (some (.int 1)), hrun, hended, rfl, ⟨_, rfl⟩, hW, hframe⟩
  jvm_step X.here [X.here.top, hx, hb, hdg, hmeth', hr, ret, narrow_b1]
  (try refine ⟨rfl, ?_⟩); (try refine ⟨rfl, ?_⟩)
  first | (intro acts; rw [hret _ acts rfl rfl rfl]) | rw [hret _ _ rfl rfl rfl]
  exact Steps.refl _
/-- what holds at the law's entry: the machine, the code, the tables' words (any of lw_tbl by 'hts w (by decide +kernel)'), the script of L ints xs at the cell b, what the Statement gives of the start (any of its parts by flat_of_before) -/
def lw_At (p : Program) (s : State) (m : MethodId) (meth : Method) (c : Code) (b L : Nat) (xs : Nat → Int32) : Prop :=
  p.tables.exec = Jvm.exec ∧ c.code = code ∧ meth.sig.returnType = ret ∧ c.maxLocals = 4 ∧ s.vm.findClass R_law = some m.cls ∧ (∀ w ∈ lw_tbl, w.before #[Value.ref b] s = true) ∧ va_X b L xs s s.heap ∧ b < s.heap.size ∧ meth.locks = false ∧ (Jvm.Cond.and given_1 narrow_1).before #[Value.ref b] s = true
theorem lw_31 (c : Int32) : ∃ k, k < 32 ∧ c &&& (31 : Int32) = nI k := by
  refine ⟨(c.toBitVec &&& 31#32).toNat, ?_, ?_⟩
  · rw [BitVec.toNat_and]
    exact Nat.lt_of_le_of_lt Nat.and_le_right (by decide)
  · apply Int32.toBitVec_inj.mp
    show c.toBitVec &&& 31#32 = BitVec.ofNat 32 (c.toBitVec &&& 31#32).toNat
    rw [BitVec.ofNat_toNat, BitVec.setWidth_eq]
theorem lw_head {i L : Nat} (hi : i ≤ 390) (hL : L ≤ 384) : (Int32.ofNat L - 6 < nI i) ↔ L < i + 6 := by
  show (nI L - 6 < nI i) ↔ L < i + 6
  rw [Int32.lt_iff_toInt_lt, nI_toInt (n := i) (by omega)]
  by_cases h : 6 ≤ L
  · obtain ⟨k, rfl⟩ : ∃ k, L = k + 6 := ⟨L - 6, by omega⟩
    have e : nI (k + 6) - 6 = nI k := by
      rw [← nI_add k 6]
      exact Int32.add_sub_cancel (nI k) 6
    rw [e, nI_toInt (by omega)]
    omega
  · have e : (nI L - 6).toInt = (L : Int) - 6 := by
      rcases (show L = 0 ∨ L = 1 ∨ L = 2 ∨ L = 3 ∨ L = 4 ∨ L = 5 by omega) with rfl | rfl | rfl | rfl | rfl | rfl <;> decide +kernel
    rw [e]
    omega
set_option maxHeartbeats 4000000 in
set_option maxRecDepth 100000 in
/-- THE LAW'S LOOP -/
theorem law_loop {p : Program} {l : Launch} {e : Env} {s : State} {m : MethodId} {below : List Frame} {meth : Method} {c : Code} {b L : Nat} {xs : Nat → Int32} {D : va_G} {cy : Nat → ClassId} {sK sV : Nat → Nat} {cells slots : Nat} (hL : L ≤ 384) (C0 : lw_At p s m meth c b L xs) (hK : va_K D vwCl (tyA cy) s) (hSF : SF sK sV (fun q => s.heap.size ≤ q) s s.heap) (hfr : cells + 0 ≤ room_1.cells ∧ slots + 0 ≤ room_1.slots) (N : Nat) (hN : 20000000 ≤ N) {x0 m0 : Nat} :
    ∀ (n i : Nat), i ≤ 390 → 391 ≤ i + n → ∀ (H : Heap) (locs : List Loc) (ls : Array Slot), va_S (fun q => s.heap.size ≤ q) s.heap H locs → LST (fun q => s.heap.size ≤ q) D cy x0 m0 H → lv_has ls 4 [(3, .int (nI i)), (2, .ref m0), (1, .ref x0), (0, .ref b)] → W p l e room_1 s m #[Value.ref b] below meth c H locs cells slots (lw_Z below #[Value.ref b] s) (F0 m 18 ls []) := by
  obtain ⟨hx, hb, hr, hml, hown, hts, hX, hbl, hlocks, hgv⟩ := C0
  have hbA : ¬ (fun q : Nat => s.heap.size ≤ q) b := Nat.not_le.mpr hbl
  intro n
  induction n with
  | zero =>
    intro i h1 h2
    exact absurd h2 (by omega)
  | succ n ih =>
    intro i h1 h2 H locs ls hS hT hl
    refine lv_iload_n hx hb dL_law_18 rfl (lv_at hl 0 rfl) ?_
    refine lv_aload_n hx hb dL_law_19 rfl (lv_at hl 3 rfl) ?_
    refine va_slen hx hb hX hbl hbA hS dL_law_20 ?_
    refine lv_bipush (v := 6) hx hb dL_law_21 (by decide) ?_
    refine lv_isub hx hb dL_law_23 ?_
    refine lv_icmp_gt (tgt := 939) hx hb dL_law_24 (by decide) (fun _ => ?_) (fun hh => ?_)
    · refine lv_iconst (v := 1) hx hb dL_law_939 (by decide) ?_
      refine va_forget (fun q hq => hS.2.2 q hq) ?_
      refine W.widen (k := 600000) (n := 7302250) hfr.1 hfr.2 ?_
      exact lw_ret hx hb hr hlocks dL_law_940
    have hlt : i + 5 < L := by
      rcases Nat.lt_or_ge L (i + 6) with q | q
      · exact absurd ((lw_head h1 hL).mpr q) hh
      · omega
    have K : ∀ (H : Heap) (locs : List Loc), va_S (fun q => s.heap.size ≤ q) s.heap H locs → LST (fun q => s.heap.size ≤ q) D cy x0 m0 H → W p l e room_1 s m #[Value.ref b] below meth c H locs cells slots (lw_Z below #[Value.ref b] s) (F0 m 933 ls []) := by
      intro H locs hS hT
      refine lv_iinc (v := nI (i + 6)) (lv' := [(3, .int (nI (i + 6))), (2, .ref m0), (1, .ref x0), (0, .ref b)]) hx hb dL_law_933 hl (k := 0) rfl (nI_add i 6) (by decide) rfl (fun ls hl => ?_)
      refine lv_goto (tgt := 18) hx hb dL_law_936 (by decide) ?_
      exact ih (i + 6) (by omega) (by omega) H locs ls hS hT hl
    refine lv_aload_n hx hb dL_law_27 rfl (lv_at hl 3 rfl) ?_
    refine lv_iload_n hx hb dL_law_28 rfl (lv_at hl 0 rfl) ?_
    refine va_sld hx hb hX hbl hbA hS (vp_in_nI (by omega) (by omega)) dL_law_29 ?_
    refine lv_bipush (v := 31) hx hb dL_law_30 (by decide) ?_
    refine lv_iand hx hb dL_law_32 ?_
    obtain ⟨j, hj, ej⟩ := lw_31 (xs (nI i).toNatClampNeg)
    rw [ej]
    rcases (show j = 0 ∨ j = 1 ∨ j = 2 ∨ j = 3 ∨ j = 4 ∨ j = 5 ∨ j = 6 ∨ j = 7 ∨ j = 8 ∨ j = 9 ∨ j = 10 ∨ j = 11 ∨ j = 12 ∨ j = 13 ∨ j = 14 ∨ j = 15 ∨ j = 16 ∨ j = 17 ∨ j = 18 ∨ j = 19 ∨ j = 20 ∨ j = 21 ∨ j = 22 ∨ j = 23 ∨ j = 24 ∨ j = 25 ∨ j = 26 ∨ 27 ≤ j by omega) with rfl | rfl | rfl | rfl | rfl | rfl | rfl | rfl | rfl | rfl | rfl | rfl | rfl | rfl | rfl | rfl | rfl | rfl | rfl | rfl | rfl | rfl | rfl | rfl | rfl | rfl | rfl | hj7
    · exact lv_tableIn (off := 123) (tgt := 156) hx hb dL_law_33 (by decide +kernel) (by decide +kernel) rfl (by decide +kernel) (lw_c0 hx hb hml hown hts hX hbl hK hSF hfr N hN hlt hL hS hT hl K)
    · exact lv_tableIn (off := 186) (tgt := 219) hx hb dL_law_33 (by decide +kernel) (by decide +kernel) rfl (by decide +kernel) (lw_c1 hx hb hml hown hts hX hbl hK hSF hfr N hN hlt hL hS hT hl K)
    · exact lv_tableIn (off := 199) (tgt := 232) hx hb dL_law_33 (by decide +kernel) (by decide +kernel) rfl (by decide +kernel) (lw_c2 hx hb hml hown hts hX hbl hK hSF hfr N hN hlt hL hS hT hl K)
    · exact lv_tableIn (off := 212) (tgt := 245) hx hb dL_law_33 (by decide +kernel) (by decide +kernel) rfl (by decide +kernel) (lw_c3 hx hb hml hown hts hX hbl hK hSF hfr N hN hlt hL hS hT hl K)
    · exact lv_tableIn (off := 235) (tgt := 268) hx hb dL_law_33 (by decide +kernel) (by decide +kernel) rfl (by decide +kernel) (lw_c4 hx hb hml hown hts hX hbl hK hSF hfr N hN hlt hL hS hT hl K)
    · exact lv_tableIn (off := 268) (tgt := 301) hx hb dL_law_33 (by decide +kernel) (by decide +kernel) rfl (by decide +kernel) (lw_c5 hx hb hml hown hts hX hbl hK hSF hfr N hN hlt hL hS hT hl K)
    · exact lv_tableIn (off := 301) (tgt := 334) hx hb dL_law_33 (by decide +kernel) (by decide +kernel) rfl (by decide +kernel) (lw_c6 hx hb hml hown hts hX hbl hK hSF hfr N hN hlt hL hS hT hl K)
    · exact lv_tableIn (off := 324) (tgt := 357) hx hb dL_law_33 (by decide +kernel) (by decide +kernel) rfl (by decide +kernel) (lw_c7 hx hb hml hown hts hX hbl hK hSF hfr N hN hlt hL hS hT hl K)
    · exact lv_tableIn (off := 337) (tgt := 370) hx hb dL_law_33 (by decide +kernel) (by decide +kernel) rfl (by decide +kernel) (lw_c8 hx hb hml hown hts hX hbl hK hSF hfr N hN hlt hL hS hT hl K)
    · exact lv_tableIn (off := 350) (tgt := 383) hx hb dL_law_33 (by decide +kernel) (by decide +kernel) rfl (by decide +kernel) (lw_c9 hx hb hml hown hts hX hbl hK hSF hfr N hN hlt hL hS hT hl K)
    · exact lv_tableIn (off := 373) (tgt := 406) hx hb dL_law_33 (by decide +kernel) (by decide +kernel) rfl (by decide +kernel) (lw_c10 hx hb hml hown hts hX hbl hK hSF hfr N hN hlt hL hS hT hl K)
    · exact lv_tableIn (off := 396) (tgt := 429) hx hb dL_law_33 (by decide +kernel) (by decide +kernel) rfl (by decide +kernel) (lw_c11 hx hb hml hown hts hX hbl hK hSF hfr N hN hlt hL hS hT hl K)
    · exact lv_tableIn (off := 419) (tgt := 452) hx hb dL_law_33 (by decide +kernel) (by decide +kernel) rfl (by decide +kernel) (lw_c12 hx hb hml hown hts hX hbl hK hSF hfr N hN hlt hL hS hT hl K)
    · exact lv_tableIn (off := 498) (tgt := 531) hx hb dL_law_33 (by decide +kernel) (by decide +kernel) rfl (by decide +kernel) (lw_c13 hx hb hml hown hts hX hbl hK hSF hfr N hN hlt hL hS hT hl K)
    · exact lv_tableIn (off := 551) (tgt := 584) hx hb dL_law_33 (by decide +kernel) (by decide +kernel) rfl (by decide +kernel) (lw_c14 hx hb hml hown hts hX hbl hK hSF hfr N hN hlt hL hS hT hl K)
    · exact lv_tableIn (off := 584) (tgt := 617) hx hb dL_law_33 (by decide +kernel) (by decide +kernel) rfl (by decide +kernel) (lw_c15 hx hb hml hown hts hX hbl hK hSF hfr N hN hlt hL hS hT hl K)
    · exact lv_tableIn (off := 627) (tgt := 660) hx hb dL_law_33 (by decide +kernel) (by decide +kernel) rfl (by decide +kernel) (lw_c16 hx hb hml hown hts hX hbl hK hSF hfr N hN hlt hL hS hT hl K)
    · exact lv_tableIn (off := 660) (tgt := 693) hx hb dL_law_33 (by decide +kernel) (by decide +kernel) rfl (by decide +kernel) (lw_c17 hx hb hml hown hts hX hbl hK hSF hfr N hN hlt hL hS hT hl K)
    · exact lv_tableIn (off := 683) (tgt := 716) hx hb dL_law_33 (by decide +kernel) (by decide +kernel) rfl (by decide +kernel) (lw_c18 hx hb hml hown hts hX hbl hK hSF hfr N hN hlt hL hS hT hl K)
    · exact lv_tableIn (off := 716) (tgt := 749) hx hb dL_law_33 (by decide +kernel) (by decide +kernel) rfl (by decide +kernel) (lw_c19 hx hb hml hown hts hX hbl hK hSF hfr N hN hlt hL hS hT hl K)
    · exact lv_tableIn (off := 729) (tgt := 762) hx hb dL_law_33 (by decide +kernel) (by decide +kernel) rfl (by decide +kernel) (lw_c20 hx hb hml hown hts hX hbl hK hSF hfr N hN hlt hL hS hT hl K)
    · exact lv_tableIn (off := 762) (tgt := 795) hx hb dL_law_33 (by decide +kernel) (by decide +kernel) rfl (by decide +kernel) (lw_c21 hx hb hml hown hts hX hbl hK hSF hfr N hN hlt hL hS hT hl K)
    · exact lv_tableIn (off := 795) (tgt := 828) hx hb dL_law_33 (by decide +kernel) (by decide +kernel) rfl (by decide +kernel) (lw_c22 hx hb hml hown hts hX hbl hK hSF hfr N hN hlt hL hS hT hl K)
    · exact lv_tableIn (off := 818) (tgt := 851) hx hb dL_law_33 (by decide +kernel) (by decide +kernel) rfl (by decide +kernel) (lw_c23 hx hb hml hown hts hX hbl hK hSF hfr N hN hlt hL hS hT hl K)
    · exact lv_tableIn (off := 831) (tgt := 864) hx hb dL_law_33 (by decide +kernel) (by decide +kernel) rfl (by decide +kernel) (lw_c24 hx hb hml hown hts hX hbl hK hSF hfr N hN hlt hL hS hT hl K)
    · exact lv_tableIn (off := 854) (tgt := 887) hx hb dL_law_33 (by decide +kernel) (by decide +kernel) rfl (by decide +kernel) (lw_c25 hx hb hml hown hts hX hbl hK hSF hfr N hN hlt hL hS hT hl K)
    · exact lv_tableIn (off := 877) (tgt := 910) hx hb dL_law_33 (by decide +kernel) (by decide +kernel) rfl (by decide +kernel) (lw_c26 hx hb hml hown hts hX hbl hK hSF hfr N hN hlt hL hS hT hl K)
    · exact lv_tableOut (tgt := 933) hx hb dL_law_33 (Or.inr (by rw [nI_toInt (by omega)]; omega)) (by decide +kernel) (K H locs hS hT)
