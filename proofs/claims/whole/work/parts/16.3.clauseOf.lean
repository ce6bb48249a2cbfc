-- ===== X3_clauseOf clauseOf ([CII)I =====
abbrev r3_clauseOf : Room := { frames := 5, cells := 0, slots := 0, locals := 165 }
def f3_clauseOf (N : Nat) (p2 : Int32) (p3 : Int32) (w1 : Nat → Int32) : Option Int32 :=
  ob1 (f3_spells N p2 p3 0 w1) fun r5 => if r5 = (0 : Int32) then (ob1 (f3_spells N p2 p3 1 w1) fun r18 => if r18 = (0 : Int32) then (ob1 (f3_spells N p2 p3 2 w1) fun r31 => if r31 = (0 : Int32) then (ob1 (f3_spells N p2 p3 3 w1) fun r44 => if r44 = (0 : Int32) then (ob1 (f3_spells N p2 p3 4 w1) fun r57 => if r57 = (0 : Int32) then (ob1 (f3_spells N p2 p3 5 w1) fun r70 => if r70 = (0 : Int32) then (some (0 : Int32)) else (some (6 : Int32))) else (some (5 : Int32))) else (some (4 : Int32))) else (some (3 : Int32))) else (some (2 : Int32))) else (some (1 : Int32))
set_option maxHeartbeats 4000000 in
set_option maxRecDepth 100000 in
theorem c3_clauseOf (l : Launch) (D : va_G) (cy : Nat → ClassId) (sK sV : Nat → Nat) (N : Nat) (g1 : Nat) (p2 : Int32) (p3 : Int32) (w1 : Nat → Int32) (r : Int32) (hM : f3_clauseOf N p2 p3 w1 = some r) (sz : Nat) : CSi l yX3_clauseOf wsX3_clauseOf r3_clauseOf [.ref g1, .int p2, .int p3] D cy sK sV sz [(g1, .inl (cy 1, 500, .inl w1))] [(g1, .inl (cy 1, 500, .inl w1))] r := by
  unfold f3_clauseOf at hM
  refine ct_oSi (cc := cX3_clauseOf) (maxL := 3) (ty := .int) (by decide +kernel) rfl (Nat.le_of_ble_eq_true rfl) (lv0 := [(0, .ref g1), (1, .int p2), (2, .int p3)]) rfl ?_
  intro p e s m args below meth c A Q ls hx hb hts hown hml hSF hK hP hD hS hA hret hl
  have hown : s.vm.findClass RX3 = some m.cls := hown
  refine lv_aload_n hx hb dX3_clauseOf_0 rfl (lv_at hl 0 rfl) ?_
  refine lv_iload_n hx hb dX3_clauseOf_1 rfl (lv_at hl 1 rfl) ?_
  refine lv_iload_n hx hb dX3_clauseOf_2 rfl (lv_at hl 2 rfl) ?_
  refine va_ldcS (index := 88) (tx := "part") hx hb hown (hSF.2.2.2 0 (by decide)) dX3_clauseOf_3 ?_
  obtain ⟨r5, hc5, hM⟩ := ob1_some hM
  refine cs_si (As := [.ref g1, .int p2, .int p3, .ref (sK 0)]) (rest := []) (wr := []) (ws2 := [(g1, .inl (cy 1, 500, .inl w1))]) hx hb hml hown hts (c3_spells l D cy sK sV N g1 p2 p3 0 w1 r5 (by decide) hc5) (va_cwS 4 hts gX3_clauseOf_X3_spells rfl rfl rfl (by decide +kernel) ⟨Nat.le_of_ble_eq_true rfl, Nat.le_of_ble_eq_true rfl⟩) hSF hK hP hD hS hA (pm_x [0] rfl rfl) (pm_x [0] rfl rfl).symm rfl rfl hl.1 (Nat.le_of_ble_eq_true rfl) dX3_clauseOf_5 ⟨Nat.zero_le _, Nat.zero_le _⟩ (fun H locs hP hD hS => ?_)
  refine lv_if_eq (tgt := 13) hx hb dX3_clauseOf_8 (by decide) (fun c8 => ?_) (fun c8 => ?_)
  · have hM := g_pos c8 hM
    refine lv_aload_n hx hb dX3_clauseOf_13 rfl (lv_at hl 0 rfl) ?_
    refine lv_iload_n hx hb dX3_clauseOf_14 rfl (lv_at hl 1 rfl) ?_
    refine lv_iload_n hx hb dX3_clauseOf_15 rfl (lv_at hl 2 rfl) ?_
    refine va_ldcS (index := 94) (tx := "mouth") hx hb hown (hSF.2.2.2 1 (by decide)) dX3_clauseOf_16 ?_
    obtain ⟨r18, hc18, hM⟩ := ob1_some hM
    refine cs_si (As := [.ref g1, .int p2, .int p3, .ref (sK 1)]) (rest := []) (wr := []) (ws2 := [(g1, .inl (cy 1, 500, .inl w1))]) hx hb hml hown hts (c3_spells l D cy sK sV N g1 p2 p3 1 w1 r18 (by decide) hc18) (va_cwS 4 hts gX3_clauseOf_X3_spells rfl rfl rfl (by decide +kernel) ⟨Nat.le_of_ble_eq_true rfl, Nat.le_of_ble_eq_true rfl⟩) hSF hK hP hD hS hA (pm_x [0] rfl rfl) (pm_x [0] rfl rfl).symm rfl rfl hl.1 (Nat.le_of_ble_eq_true rfl) dX3_clauseOf_18 ⟨Nat.zero_le _, Nat.zero_le _⟩ (fun H locs hP hD hS => ?_)
    refine lv_if_eq (tgt := 26) hx hb dX3_clauseOf_21 (by decide) (fun c21 => ?_) (fun c21 => ?_)
    · have hM := g_pos c21 hM
      refine lv_aload_n hx hb dX3_clauseOf_26 rfl (lv_at hl 0 rfl) ?_
      refine lv_iload_n hx hb dX3_clauseOf_27 rfl (lv_at hl 1 rfl) ?_
      refine lv_iload_n hx hb dX3_clauseOf_28 rfl (lv_at hl 2 rfl) ?_
      refine va_ldcS (index := 96) (tx := "way") hx hb hown (hSF.2.2.2 2 (by decide)) dX3_clauseOf_29 ?_
      obtain ⟨r31, hc31, hM⟩ := ob1_some hM
      refine cs_si (As := [.ref g1, .int p2, .int p3, .ref (sK 2)]) (rest := []) (wr := []) (ws2 := [(g1, .inl (cy 1, 500, .inl w1))]) hx hb hml hown hts (c3_spells l D cy sK sV N g1 p2 p3 2 w1 r31 (by decide) hc31) (va_cwS 4 hts gX3_clauseOf_X3_spells rfl rfl rfl (by decide +kernel) ⟨Nat.le_of_ble_eq_true rfl, Nat.le_of_ble_eq_true rfl⟩) hSF hK hP hD hS hA (pm_x [0] rfl rfl) (pm_x [0] rfl rfl).symm rfl rfl hl.1 (Nat.le_of_ble_eq_true rfl) dX3_clauseOf_31 ⟨Nat.zero_le _, Nat.zero_le _⟩ (fun H locs hP hD hS => ?_)
      refine lv_if_eq (tgt := 39) hx hb dX3_clauseOf_34 (by decide) (fun c34 => ?_) (fun c34 => ?_)
      · have hM := g_pos c34 hM
        refine lv_aload_n hx hb dX3_clauseOf_39 rfl (lv_at hl 0 rfl) ?_
        refine lv_iload_n hx hb dX3_clauseOf_40 rfl (lv_at hl 1 rfl) ?_
        refine lv_iload_n hx hb dX3_clauseOf_41 rfl (lv_at hl 2 rfl) ?_
        refine va_ldcS (index := 98) (tx := "person") hx hb hown (hSF.2.2.2 3 (by decide)) dX3_clauseOf_42 ?_
        obtain ⟨r44, hc44, hM⟩ := ob1_some hM
        refine cs_si (As := [.ref g1, .int p2, .int p3, .ref (sK 3)]) (rest := []) (wr := []) (ws2 := [(g1, .inl (cy 1, 500, .inl w1))]) hx hb hml hown hts (c3_spells l D cy sK sV N g1 p2 p3 3 w1 r44 (by decide) hc44) (va_cwS 4 hts gX3_clauseOf_X3_spells rfl rfl rfl (by decide +kernel) ⟨Nat.le_of_ble_eq_true rfl, Nat.le_of_ble_eq_true rfl⟩) hSF hK hP hD hS hA (pm_x [0] rfl rfl) (pm_x [0] rfl rfl).symm rfl rfl hl.1 (Nat.le_of_ble_eq_true rfl) dX3_clauseOf_44 ⟨Nat.zero_le _, Nat.zero_le _⟩ (fun H locs hP hD hS => ?_)
        refine lv_if_eq (tgt := 52) hx hb dX3_clauseOf_47 (by decide) (fun c47 => ?_) (fun c47 => ?_)
        · have hM := g_pos c47 hM
          refine lv_aload_n hx hb dX3_clauseOf_52 rfl (lv_at hl 0 rfl) ?_
          refine lv_iload_n hx hb dX3_clauseOf_53 rfl (lv_at hl 1 rfl) ?_
          refine lv_iload_n hx hb dX3_clauseOf_54 rfl (lv_at hl 2 rfl) ?_
          refine va_ldcS (index := 100) (tx := "interest") hx hb hown (hSF.2.2.2 4 (by decide)) dX3_clauseOf_55 ?_
          obtain ⟨r57, hc57, hM⟩ := ob1_some hM
          refine cs_si (As := [.ref g1, .int p2, .int p3, .ref (sK 4)]) (rest := []) (wr := []) (ws2 := [(g1, .inl (cy 1, 500, .inl w1))]) hx hb hml hown hts (c3_spells l D cy sK sV N g1 p2 p3 4 w1 r57 (by decide) hc57) (va_cwS 4 hts gX3_clauseOf_X3_spells rfl rfl rfl (by decide +kernel) ⟨Nat.le_of_ble_eq_true rfl, Nat.le_of_ble_eq_true rfl⟩) hSF hK hP hD hS hA (pm_x [0] rfl rfl) (pm_x [0] rfl rfl).symm rfl rfl hl.1 (Nat.le_of_ble_eq_true rfl) dX3_clauseOf_57 ⟨Nat.zero_le _, Nat.zero_le _⟩ (fun H locs hP hD hS => ?_)
          refine lv_if_eq (tgt := 65) hx hb dX3_clauseOf_60 (by decide) (fun c60 => ?_) (fun c60 => ?_)
          · have hM := g_pos c60 hM
            refine lv_aload_n hx hb dX3_clauseOf_65 rfl (lv_at hl 0 rfl) ?_
            refine lv_iload_n hx hb dX3_clauseOf_66 rfl (lv_at hl 1 rfl) ?_
            refine lv_iload_n hx hb dX3_clauseOf_67 rfl (lv_at hl 2 rfl) ?_
            refine va_ldcS (index := 102) (tx := "winter") hx hb hown (hSF.2.2.2 5 (by decide)) dX3_clauseOf_68 ?_
            obtain ⟨r70, hc70, hM⟩ := ob1_some hM
            refine cs_si (As := [.ref g1, .int p2, .int p3, .ref (sK 5)]) (rest := []) (wr := []) (ws2 := [(g1, .inl (cy 1, 500, .inl w1))]) hx hb hml hown hts (c3_spells l D cy sK sV N g1 p2 p3 5 w1 r70 (by decide) hc70) (va_cwS 4 hts gX3_clauseOf_X3_spells rfl rfl rfl (by decide +kernel) ⟨Nat.le_of_ble_eq_true rfl, Nat.le_of_ble_eq_true rfl⟩) hSF hK hP hD hS hA (pm_x [0] rfl rfl) (pm_x [0] rfl rfl).symm rfl rfl hl.1 (Nat.le_of_ble_eq_true rfl) dX3_clauseOf_70 ⟨Nat.zero_le _, Nat.zero_le _⟩ (fun H locs hP hD hS => ?_)
            refine lv_if_eq (tgt := 81) hx hb dX3_clauseOf_73 (by decide) (fun c73 => ?_) (fun c73 => ?_)
            · have hM := g_pos c73 hM
              refine lv_iconst (v := 0) hx hb dX3_clauseOf_81 (by decide) ?_
              obtain rfl := si1 hM
              exact hret _ _ _ _ _ dX3_clauseOf_82 rfl rfl hP hD hS
            · have hM := g_neg c73 hM
              refine lv_bipush (v := 6) hx hb dX3_clauseOf_76 (by decide) ?_
              refine lv_goto (tgt := 82) hx hb dX3_clauseOf_78 (by decide) ?_
              obtain rfl := si1 hM
              exact hret _ _ _ _ _ dX3_clauseOf_82 rfl rfl hP hD hS
          · have hM := g_neg c60 hM
            refine lv_iconst (v := 5) hx hb dX3_clauseOf_63 (by decide) ?_
            obtain rfl := si1 hM
            exact hret _ _ _ _ _ dX3_clauseOf_64 rfl rfl hP hD hS
        · have hM := g_neg c47 hM
          refine lv_iconst (v := 4) hx hb dX3_clauseOf_50 (by decide) ?_
          obtain rfl := si1 hM
          exact hret _ _ _ _ _ dX3_clauseOf_51 rfl rfl hP hD hS
      · have hM := g_neg c34 hM
        refine lv_iconst (v := 3) hx hb dX3_clauseOf_37 (by decide) ?_
        obtain rfl := si1 hM
        exact hret _ _ _ _ _ dX3_clauseOf_38 rfl rfl hP hD hS
    · have hM := g_neg c21 hM
      refine lv_iconst (v := 2) hx hb dX3_clauseOf_24 (by decide) ?_
      obtain rfl := si1 hM
      exact hret _ _ _ _ _ dX3_clauseOf_25 rfl rfl hP hD hS
  · have hM := g_neg c8 hM
    refine lv_iconst (v := 1) hx hb dX3_clauseOf_11 (by decide) ?_
    obtain rfl := si1 hM
    exact hret _ _ _ _ _ dX3_clauseOf_12 rfl rfl hP hD hS
