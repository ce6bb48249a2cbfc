-- ===== X3_spells spells ([CIILjava/lang/String;)Z =====
abbrev r3_spells : Room := { frames := 4, cells := 0, slots := 0, locals := 141 }
def f3_spells_L25 (N : Nat) (p2 : Int32) (wi : Nat) (w1 : Nat → Int32) : Nat → Int32 → Option Int32
  | 0, _ => none
  | n + 1, x4_25 => if (nI (lenS.getD wi 0)) ≤ x4_25 then (some (1 : Int32)) else (gi (p2 + x4_25) 500 (gi x4_25 (lenS.getD wi 0) (if (w1 (p2 + x4_25).toNatClampNeg) = (chS wi x4_25) then ((f3_spells_L25 N p2 wi w1 n) (x4_25 + (1 : Int32))) else (some (0 : Int32)))))
def f3_spells (N : Nat) (p2 : Int32) (p3 : Int32) (wi : Nat) (w1 : Nat → Int32) : Option Int32 :=
  if p2 < (0 : Int32) then (some (0 : Int32)) else (if (500 : Int32) < p3 then (some (0 : Int32)) else (if (p3 - p2) = (nI (lenS.getD wi 0)) then (f3_spells_L25 N p2 wi w1 N (0 : Int32)) else (some (0 : Int32))))
set_option maxHeartbeats 4000000 in
set_option maxRecDepth 100000 in
theorem c3_spells (l : Launch) (D : va_G) (cy : Nat → ClassId) (sK sV : Nat → Nat) (N : Nat) (g1 : Nat) (p2 : Int32) (p3 : Int32) (wi : Nat) (w1 : Nat → Int32) (r : Int32) (hwi : wi < 6) (hM : f3_spells N p2 p3 wi w1 = some r) (sz : Nat) : CSi l yX3_spells wsX3_spells r3_spells [.ref g1, .int p2, .int p3, .ref (sK wi)] D cy sK sV sz [(g1, .inl (cy 1, 500, .inl w1))] [(g1, .inl (cy 1, 500, .inl w1))] r := by
  unfold f3_spells at hM
  refine ct_oSi (cc := cX3_spells) (maxL := 5) (ty := .boolean) (by decide +kernel) rfl (Nat.le_of_ble_eq_true rfl) (lv0 := [(0, .ref g1), (1, .int p2), (2, .int p3), (3, .ref (sK wi))]) rfl ?_
  intro p e s m args below meth c A Q ls hx hb hts hown hml hSF hK hP hD hS hA hret hl
  have hown : s.vm.findClass RX3 = some m.cls := hown
  refine lv_iload_n hx hb dX3_spells_0 rfl (lv_at hl 1 rfl) ?_
  refine lv_if_lt (tgt := 20) hx hb dX3_spells_1 (by decide) (fun c1 => ?_) (fun c1 => ?_)
  · have hM := g_pos c1 hM
    refine lv_iconst (v := 0) hx hb dX3_spells_20 (by decide) ?_
    obtain rfl := si1 hM
    exact hret _ _ _ _ _ dX3_spells_21 rfl rfl hP hD hS
  · have hM := g_neg c1 hM
    refine lv_iload_n hx hb dX3_spells_4 rfl (lv_at hl 2 rfl) ?_
    refine lv_aload_n hx hb dX3_spells_5 rfl (lv_at hl 0 rfl) ?_
    refine va_alen (v := 500) hx hb hK hP 0 1 rfl rfl rfl dX3_spells_6 ?_
    refine lv_icmp_gt (tgt := 20) hx hb dX3_spells_7 (by decide) (fun c7 => ?_) (fun c7 => ?_)
    · have hM := g_pos c7 hM
      refine lv_iconst (v := 0) hx hb dX3_spells_20 (by decide) ?_
      obtain rfl := si1 hM
      exact hret _ _ _ _ _ dX3_spells_21 rfl rfl hP hD hS
    · have hM := g_neg c7 hM
      refine lv_iload_n hx hb dX3_spells_10 rfl (lv_at hl 2 rfl) ?_
      refine lv_iload_n hx hb dX3_spells_11 rfl (lv_at hl 1 rfl) ?_
      refine lv_isub hx hb dX3_spells_12 ?_
      refine lv_aload_n hx hb dX3_spells_13 rfl (lv_at hl 3 rfl) ?_
      refine cs_vi (As := []) (rest := [.int (p3 - p2)]) (wr := [(g1, .inl (cy 1, 500, .inl w1))]) (ws2 := [(g1, .inl (cy 1, 500, .inl w1))]) hx hb hml hown hts (cj_length l D cy sK sV hwi) (cwV 0 hts gX3_spells_J0_length_8abf5 rfl rfl rfl (by decide +kernel) ⟨Nat.le_of_ble_eq_true rfl, Nat.le_of_ble_eq_true rfl⟩) hSF hK hP hD hS hA (vk_recv hSF.1 hwi hS) (pm_x [0] rfl rfl) (pm_x [0] rfl rfl) rfl rfl hl.1 (Nat.le_of_ble_eq_true rfl) dX3_spells_14 ⟨Nat.zero_le _, Nat.zero_le _⟩ (fun H locs hP hD hS => ?_)
      refine lv_icmp_eq (tgt := 22) hx hb dX3_spells_17 (by decide) (fun c17 => ?_) (fun c17 => ?_)
      · have hM := g_pos c17 hM
        refine lv_iconst (v := 0) hx hb dX3_spells_22 (by decide) ?_
        refine lv_istore (lv' := [(4, .int (0 : Int32)), (0, .ref g1), (1, .int p2), (2, .int p3), (3, .ref (sK wi))]) hx hb dX3_spells_23 hl (by decide) rfl (fun ls hl => ?_)
        have L25 : ∀ (n : Nat) (x4_25 : Int32) (H : Heap) (locs : List Loc) (ls : Array Slot), f3_spells_L25 N p2 wi w1 n x4_25 = some r → va_P D vwCl [(g1, .inl (cy 1, 500, .inl w1))] H → va_D A [(g1, .inl (cy 1, 500, .inl w1))] → va_S A s.heap H locs → lv_has ls 5 [(0, .ref g1), (1, .int p2), (3, .ref (sK wi)), (4, .int x4_25)] → W p l e r3_spells s m args below meth c H locs 0 0 Q (F0 m 25 ls []) := by
          intro n
          induction n with
          | zero =>
            intro x4_25 H locs ls hM
            exact absurd hM (by simp [f3_spells_L25])
          | succ n ih =>
            intro x4_25 H locs ls hM hP hD hS hl
            rw [f3_spells_L25] at hM
            refine lv_iload hx hb dX3_spells_25 (lv_at hl 3 rfl) ?_
            refine lv_aload_n hx hb dX3_spells_27 rfl (lv_at hl 2 rfl) ?_
            refine cs_vi (As := []) (rest := [.int x4_25]) (wr := [(g1, .inl (cy 1, 500, .inl w1))]) (ws2 := [(g1, .inl (cy 1, 500, .inl w1))]) hx hb hml hown hts (cj_length l D cy sK sV hwi) (cwV 0 hts gX3_spells_J0_length_8abf5 rfl rfl rfl (by decide +kernel) ⟨Nat.le_of_ble_eq_true rfl, Nat.le_of_ble_eq_true rfl⟩) hSF hK hP hD hS hA (vk_recv hSF.1 hwi hS) (pm_x [0] rfl rfl) (pm_x [0] rfl rfl) rfl rfl hl.1 (Nat.le_of_ble_eq_true rfl) dX3_spells_28 ⟨Nat.zero_le _, Nat.zero_le _⟩ (fun H locs hP hD hS => ?_)
            refine lv_icmp_ge (tgt := 57) hx hb dX3_spells_31 (by decide) (fun c31 => ?_) (fun c31 => ?_)
            · have hM := g_pos c31 hM
              refine lv_iconst (v := 1) hx hb dX3_spells_57 (by decide) ?_
              obtain rfl := si1 hM
              exact hret _ _ _ _ _ dX3_spells_58 rfl rfl hP hD hS
            · have hM := g_neg c31 hM
              refine lv_aload_n hx hb dX3_spells_34 rfl (lv_at hl 0 rfl) ?_
              refine lv_iload_n hx hb dX3_spells_35 rfl (lv_at hl 1 rfl) ?_
              refine lv_iload hx hb dX3_spells_36 (lv_at hl 3 rfl) ?_
              refine lv_iadd hx hb dX3_spells_38 ?_
              obtain ⟨h39, hM⟩ := gi_some hM
              refine va_cald hx hb hK hP 0 1 rfl rfl h39 dX3_spells_39 ?_
              refine lv_aload_n hx hb dX3_spells_40 rfl (lv_at hl 2 rfl) ?_
              refine lv_iload hx hb dX3_spells_41 (lv_at hl 3 rfl) ?_
              obtain ⟨h43, hM⟩ := gi_some hM
              refine cs_vi (As := [.int x4_25]) (rest := [.int (w1 (p2 + x4_25).toNatClampNeg)]) (wr := [(g1, .inl (cy 1, 500, .inl w1))]) (ws2 := [(g1, .inl (cy 1, 500, .inl w1))]) hx hb hml hown hts (cj_charAt l D cy sK sV hwi h43) (cwV 1 hts gX3_spells_J0_charAt_5068e rfl rfl rfl (by decide +kernel) ⟨Nat.le_of_ble_eq_true rfl, Nat.le_of_ble_eq_true rfl⟩) hSF hK hP hD hS hA (vk_recv hSF.1 hwi hS) (pm_x [0] rfl rfl) (pm_x [0] rfl rfl) rfl rfl hl.1 (Nat.le_of_ble_eq_true rfl) dX3_spells_43 ⟨Nat.zero_le _, Nat.zero_le _⟩ (fun H locs hP hD hS => ?_)
              refine lv_icmp_eq (tgt := 51) hx hb dX3_spells_46 (by decide) (fun c46 => ?_) (fun c46 => ?_)
              · have hM := g_pos c46 hM
                refine lv_iinc (v := x4_25 + (1 : Int32)) (lv' := [(4, .int (x4_25 + (1 : Int32))), (0, .ref g1), (1, .int p2), (3, .ref (sK wi))]) hx hb dX3_spells_51 hl (k := 3) rfl rfl (by decide) rfl (fun ls hl => ?_)
                refine lv_goto (tgt := 25) hx hb dX3_spells_54 (by decide) ?_
                exact ih (x4_25 + (1 : Int32)) _ _ _ hM hP hD hS (lv_sub hl [1, 2, 3, 0] rfl)
              · have hM := g_neg c46 hM
                refine lv_iconst (v := 0) hx hb dX3_spells_49 (by decide) ?_
                obtain rfl := si1 hM
                exact hret _ _ _ _ _ dX3_spells_50 rfl rfl hP hD hS
        exact L25 N (0 : Int32) _ _ _ hM hP hD hS (lv_sub hl [1, 2, 4, 0] rfl)
      · have hM := g_neg c17 hM
        refine lv_iconst (v := 0) hx hb dX3_spells_20 (by decide) ?_
        obtain rfl := si1 hM
        exact hret _ _ _ _ _ dX3_spells_21 rfl rfl hP hD hS
