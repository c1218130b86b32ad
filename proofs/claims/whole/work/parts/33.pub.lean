section CT
variable {l : Launch} {D : va_G} {cI cZ : ClassId} {a : Nat → Nat} {t : Nat}
set_option maxHeartbeats 4000000 in
set_option maxRecDepth 100000 in
theorem c_N_set (hst : l.stackTraces = false) (v1 : Int32) (v2 : Int32) (σ : nS) : CxV l D cI cZ (wC cI cZ a) t y_N_set b_N_set 3 { frames := 6, cells := 1, slots := 6, locals := 90 } [.ref (a 0), .int v1, .int v2] σ (x_N_set v1 v2 σ) := by
  generalize hF : x_N_set v1 v2 σ = F
  refine mexV hst rfl (Nat.le_of_ble_eq_true rfl) (by decide) (by decide) (by decide) (by decide) (fun p e s m args below meth c A Q ls X S hl ret thr => ?_)
  have hq := hF.symm
  obtain ⟨hx, hb, hml, hown, hts, hK, hA, hE, hlk, hEo⟩ := id X
  have hl : lv_has ls 3 [(0, .ref (a 0)), (1, .int v1), (2, .int v2)] := hl
  refine lv_aload_n hx hb d_N_set_0 rfl (lv_at hl 0 rfl) ?_
  refine g_N_19 hx hb hts hown hK S.1 d_N_set_1 ?_
  refine lv_iload_n hx hb d_N_set_4 rfl (lv_at hl 1 rfl) ?_
  refine callVZp X S hl (c_Me_holdsWord v1 _) v_N_51 3 1 ⟨rfl, rfl⟩ (rk_dec (by decide)) rfl rfl (Nat.le_of_ble_eq_true rfl) d_N_set_5 (fun H locs S => ?_)
  refine r_ifneZ (tgt := 21) hx hb d_N_set_8 rfl (fun h8 => ?_) (fun h8 => ?_)
  · have hq := hq.trans (if_pos h8)
    refine lv_aload_n hx hb d_N_set_21 rfl (lv_at hl 0 rfl) ?_
    refine g_N_19 hx hb hts hown hK S.1 d_N_set_22 ?_
    refine lv_iload_n hx hb d_N_set_25 rfl (lv_at hl 1 rfl) ?_
    refine lv_iload_n hx hb d_N_set_26 rfl (lv_at hl 2 rfl) ?_
    refine callVV X S hl (c_Me_store v1 v2 _) v_N_62 3 1 ⟨rfl, rfl⟩ (rk_dec (by decide)) rfl rfl (Nat.le_of_ble_eq_true rfl) d_N_set_27 (fun σ1 H locs e1 S => ?_)
    have hq := hq.trans (ap1_eq e1)
    exact ret _ _ _ _ _ S hq d_N_set_30
  · have hq := hq.trans (if_neg h8)
    exact thr _ _ _ _ _ 57 "no word at this address" S hq hl.1 (by decide) d_N_set_11 d_N_set_14 d_N_set_15 d_N_set_17 d_N_set_20
set_option maxHeartbeats 4000000 in
set_option maxRecDepth 100000 in
theorem c_N_word (hst : l.stackTraces = false) (v1 : Int32) (σ : nS) : CxI l D cI cZ (wC cI cZ a) t y_N_word b_N_word 2 { frames := 6, cells := 1, slots := 6, locals := 90 } [.ref (a 0), .int v1] σ (x_N_word v1 σ) := by
  generalize hF : x_N_word v1 σ = F
  refine mexI hst rfl (Nat.le_of_ble_eq_true rfl) (by decide) (by decide) (by decide) (by decide) (fun p e s m args below meth c A Q ls X S hl ret thr => ?_)
  have hq := hF.symm
  obtain ⟨hx, hb, hml, hown, hts, hK, hA, hE, hlk, hEo⟩ := id X
  have hl : lv_has ls 2 [(0, .ref (a 0)), (1, .int v1)] := hl
  refine lv_aload_n hx hb d_N_word_0 rfl (lv_at hl 0 rfl) ?_
  refine g_N_19 hx hb hts hown hK S.1 d_N_word_1 ?_
  refine lv_iload_n hx hb d_N_word_4 rfl (lv_at hl 1 rfl) ?_
  refine callVZp X S hl (c_Me_holdsWord v1 _) v_N_51 3 1 ⟨rfl, rfl⟩ (rk_dec (by decide)) rfl rfl (Nat.le_of_ble_eq_true rfl) d_N_word_5 (fun H locs S => ?_)
  refine r_ifneZ (tgt := 21) hx hb d_N_word_8 rfl (fun h8 => ?_) (fun h8 => ?_)
  · have hq := hq.trans (if_pos h8)
    refine lv_aload_n hx hb d_N_word_21 rfl (lv_at hl 0 rfl) ?_
    refine g_N_19 hx hb hts hown hK S.1 d_N_word_22 ?_
    refine lv_iload_n hx hb d_N_word_25 rfl (lv_at hl 1 rfl) ?_
    refine callVIp X S hl (c_Me_load v1 _) v_N_66 3 1 ⟨rfl, rfl⟩ (rk_dec (by decide)) rfl rfl (Nat.le_of_ble_eq_true rfl) d_N_word_26 (fun H locs S => ?_)
    exact ret _ _ _ _ _ _ S hq d_N_word_29
  · have hq := hq.trans (if_neg h8)
    exact thr _ _ _ _ _ 57 "no word at this address" S hq hl.1 (by decide) d_N_word_11 d_N_word_14 d_N_word_15 d_N_word_17 d_N_word_20
set_option maxHeartbeats 4000000 in
set_option maxRecDepth 100000 in
theorem c_N_put (hst : l.stackTraces = false) (v1 : Int32) (v2 : Int32) (σ : nS) (hok : ox_N_put v1 v2 σ) : CxV l D cI cZ (wC cI cZ a) t y_N_put b_N_put 3 { frames := 6, cells := 1, slots := 6, locals := 90 } [.ref (a 0), .int v1, .int v2] σ (x_N_put v1 v2 σ) := by
  generalize hF : x_N_put v1 v2 σ = F
  refine mexV hst rfl (Nat.le_of_ble_eq_true rfl) (by decide) (by decide) (by decide) (by decide) (fun p e s m args below meth c A Q ls X S hl ret thr => ?_)
  have hq := hF.symm
  obtain ⟨hx, hb, hml, hown, hts, hK, hA, hE, hlk, hEo⟩ := id X
  have hl : lv_has ls 3 [(0, .ref (a 0)), (1, .int v1), (2, .int v2)] := hl
  have B_N_put_10 : ∀ (σ : nS) (H : Heap) (locs : List Loc) (ls : Array Slot), (ox_N_put_10 σ) → lv_has ls 3 [] → St D (wC cI cZ a) A s σ H locs → F = x_N_put_10 σ → W p l e ({ frames := 6, cells := 1, slots := 6, locals := 90 } : Room) s m args below meth c H locs 0 0 Q (F0 m 10 ls []) := by
    intro σ H locs ls hok hl S hq
    exact thr _ _ _ _ _ 70 "no such register" S hq hl.1 (by decide) d_N_put_10 d_N_put_13 d_N_put_14 d_N_put_16 d_N_put_19
  have B_N_put_87 : ∀ (k1 : Bool) (σ : nS) (H : Heap) (locs : List Loc) (ls : Array Slot), (ox_N_put_87 k1 σ) → lv_has ls 3 [] → St D (wC cI cZ a) A s σ H locs → F = x_N_put_87 k1 σ → W p l e ({ frames := 6, cells := 1, slots := 6, locals := 90 } : Room) s m args below meth c H locs 0 0 Q (F0 m 87 ls [.int (bI k1), .ref (a 10)]) := by
    intro k1 σ H locs ls hok hl S hq
    refine p_N_75 (b := k1) hx hb hts hown hK S d_N_put_87 (fun H locs S => ?_)
    refine lv_goto (tgt := 161) hx hb d_N_put_90 rfl ?_
    exact ret _ _ _ _ _ S hq d_N_put_161
  have B_N_put_106 : ∀ (k1 : Bool) (σ : nS) (H : Heap) (locs : List Loc) (ls : Array Slot), (ox_N_put_106 k1 σ) → lv_has ls 3 [] → St D (wC cI cZ a) A s σ H locs → F = x_N_put_106 k1 σ → W p l e ({ frames := 6, cells := 1, slots := 6, locals := 90 } : Room) s m args below meth c H locs 0 0 Q (F0 m 106 ls [.int (bI k1), .ref (a 10)]) := by
    intro k1 σ H locs ls hok hl S hq
    refine p_N_79 (b := k1) hx hb hts hown hK S d_N_put_106 (fun H locs S => ?_)
    refine lv_goto (tgt := 161) hx hb d_N_put_109 rfl ?_
    exact ret _ _ _ _ _ S hq d_N_put_161
  refine lv_iload_n hx hb d_N_put_0 rfl (lv_at hl 1 rfl) ?_
  refine lv_if_lt (tgt := 10) hx hb d_N_put_1 rfl (fun h1 => ?_) (fun h1 => ?_)
  · have hq := hq.trans (if_pos h1)
    have hok := ok_pos h1 hok
    exact B_N_put_10 _ _ _ _ hok (lv_sub hl [] rfl) S hq
  · have hq := hq.trans (if_neg h1)
    have hok := ok_neg h1 hok
    refine lv_iload_n hx hb d_N_put_4 rfl (lv_at hl 1 rfl) ?_
    refine lv_bipush (v := 20) hx hb d_N_put_5 (by decide) ?_
    refine lv_icmp_le (tgt := 20) hx hb d_N_put_7 rfl (fun h7 => ?_) (fun h7 => ?_)
    · have hq := hq.trans (if_pos h7)
      have hok := ok_pos h7 hok
      refine lv_iload_n hx hb d_N_put_20 rfl (lv_at hl 1 rfl) ?_
      by_cases h21_15 : v1 = (15 : Int32)
      · have hq := hq.trans (if_pos h21_15)
        have hok := ok_pos h21_15 hok
        refine lv_tableIn (off := 39) (tgt := 60) hx hb d_N_put_21 (by rw [h21_15]; decide) (by rw [h21_15]; decide) (by rw [h21_15]; rfl) rfl ?_
        refine lv_aload_n hx hb d_N_put_60 rfl (lv_at hl 0 rfl) ?_
        refine g_N_9 hx hb hts hown hK S.1 d_N_put_61 ?_
        refine lv_bipush (v := 15) hx hb d_N_put_64 (by decide) ?_
        refine lv_iload_n hx hb d_N_put_66 rfl (lv_at hl 2 rfl) ?_
        refine callSIp X S hl (c_N_even v2 _) v_N_72 (rk_dec (by decide)) rfl rfl (Nat.le_of_ble_eq_true rfl) d_N_put_67 (fun H locs S => ?_)
        refine st_C_1 (k := 15) hx hb hK S (vin_dec (by decide)) (by decide) d_N_put_70 (fun H locs S => ?_)
        refine lv_goto (tgt := 161) hx hb d_N_put_71 rfl ?_
        exact ret _ _ _ _ _ S hq d_N_put_161
      · have hq := hq.trans (if_neg h21_15)
        have hok := ok_neg h21_15 hok
        by_cases h21_16 : v1 = (16 : Int32)
        · have hq := hq.trans (if_pos h21_16)
          have hok := ok_pos h21_16 hok
          refine lv_tableIn (off := 53) (tgt := 74) hx hb d_N_put_21 (by rw [h21_16]; decide) (by rw [h21_16]; decide) (by rw [h21_16]; rfl) rfl ?_
          refine lv_aload_n hx hb d_N_put_74 rfl (lv_at hl 0 rfl) ?_
          refine g_N_33 hx hb hts hown hK S.1 d_N_put_75 ?_
          refine lv_iload_n hx hb d_N_put_78 rfl (lv_at hl 2 rfl) ?_
          refine lv_if_eq (tgt := 86) hx hb d_N_put_79 rfl (fun h79 => ?_) (fun h79 => ?_)
          · have hq := hq.trans (if_pos h79)
            have hok := ok_pos h79 hok
            refine lv_iconst (v := 0) hx hb d_N_put_86 (by decide) ?_
            exact B_N_put_87 false _ _ _ _ hok (lv_sub hl [] rfl) S hq
          · have hq := hq.trans (if_neg h79)
            have hok := ok_neg h79 hok
            refine lv_iconst (v := 1) hx hb d_N_put_82 (by decide) ?_
            refine lv_goto (tgt := 87) hx hb d_N_put_83 rfl ?_
            exact B_N_put_87 true _ _ _ _ hok (lv_sub hl [] rfl) S hq
        · have hq := hq.trans (if_neg h21_16)
          have hok := ok_neg h21_16 hok
          by_cases h21_17 : v1 = (17 : Int32)
          · have hq := hq.trans (if_pos h21_17)
            have hok := ok_pos h21_17 hok
            refine lv_tableIn (off := 72) (tgt := 93) hx hb d_N_put_21 (by rw [h21_17]; decide) (by rw [h21_17]; decide) (by rw [h21_17]; rfl) rfl ?_
            refine lv_aload_n hx hb d_N_put_93 rfl (lv_at hl 0 rfl) ?_
            refine g_N_33 hx hb hts hown hK S.1 d_N_put_94 ?_
            refine lv_iload_n hx hb d_N_put_97 rfl (lv_at hl 2 rfl) ?_
            refine lv_if_eq (tgt := 105) hx hb d_N_put_98 rfl (fun h98 => ?_) (fun h98 => ?_)
            · have hq := hq.trans (if_pos h98)
              have hok := ok_pos h98 hok
              refine lv_iconst (v := 0) hx hb d_N_put_105 (by decide) ?_
              exact B_N_put_106 false _ _ _ _ hok (lv_sub hl [] rfl) S hq
            · have hq := hq.trans (if_neg h98)
              have hok := ok_neg h98 hok
              refine lv_iconst (v := 1) hx hb d_N_put_101 (by decide) ?_
              refine lv_goto (tgt := 106) hx hb d_N_put_102 rfl ?_
              exact B_N_put_106 true _ _ _ _ hok (lv_sub hl [] rfl) S hq
          · have hq := hq.trans (if_neg h21_17)
            have hok := ok_neg h21_17 hok
            by_cases h21_18 : v1 = (18 : Int32)
            · have hq := hq.trans (if_pos h21_18)
              have hok := ok_pos h21_18 hok
              refine lv_tableIn (off := 91) (tgt := 112) hx hb d_N_put_21 (by rw [h21_18]; decide) (by rw [h21_18]; decide) (by rw [h21_18]; rfl) rfl ?_
              refine lv_aload_n hx hb d_N_put_112 rfl (lv_at hl 0 rfl) ?_
              refine g_N_33 hx hb hts hown hK S.1 d_N_put_113 ?_
              refine lv_iload_n hx hb d_N_put_116 rfl (lv_at hl 2 rfl) ?_
              refine lv_bipush (v := 7) hx hb d_N_put_117 (by decide) ?_
              refine lv_iand hx hb d_N_put_119 ?_
              refine p_N_82 hx hb hts hown hK S d_N_put_120 (fun H locs S => ?_)
              refine lv_goto (tgt := 161) hx hb d_N_put_123 rfl ?_
              exact ret _ _ _ _ _ S hq d_N_put_161
            · have hq := hq.trans (if_neg h21_18)
              have hok := ok_neg h21_18 hok
              by_cases h21_19 : v1 = (19 : Int32)
              · have hq := hq.trans (if_pos h21_19)
                have hok := ok_pos h21_19 hok
                refine lv_tableIn (off := 105) (tgt := 126) hx hb d_N_put_21 (by rw [h21_19]; decide) (by rw [h21_19]; decide) (by rw [h21_19]; rfl) rfl ?_
                refine lv_aload_n hx hb d_N_put_126 rfl (lv_at hl 0 rfl) ?_
                refine g_N_33 hx hb hts hown hK S.1 d_N_put_127 ?_
                refine lv_iload_n hx hb d_N_put_130 rfl (lv_at hl 2 rfl) ?_
                refine lv_iconst (v := 3) hx hb d_N_put_131 (by decide) ?_
                refine lv_iand hx hb d_N_put_132 ?_
                refine p_N_86 hx hb hts hown hK S d_N_put_133 (fun H locs S => ?_)
                refine lv_goto (tgt := 161) hx hb d_N_put_136 rfl ?_
                exact ret _ _ _ _ _ S hq d_N_put_161
              · have hq := hq.trans (if_neg h21_19)
                have hok := ok_neg h21_19 hok
                by_cases h21_20 : v1 = (20 : Int32)
                · have hq := hq.trans (if_pos h21_20)
                  have hok := ok_pos h21_20 hok
                  refine lv_tableIn (off := 118) (tgt := 139) hx hb d_N_put_21 (by rw [h21_20]; decide) (by rw [h21_20]; decide) (by rw [h21_20]; rfl) rfl ?_
                  refine lv_aload_n hx hb d_N_put_139 rfl (lv_at hl 0 rfl) ?_
                  refine g_N_47 hx hb hts hown hK S.1 d_N_put_140 ?_
                  refine lv_iload_n hx hb d_N_put_143 rfl (lv_at hl 2 rfl) ?_
                  refine lv_sipush (v := 255) hx hb d_N_put_144 (by decide) ?_
                  refine lv_iand hx hb d_N_put_147 ?_
                  refine callVV X S hl (c_Ti_start (v2 &&& (255 : Int32)) _) v_N_89 16 5 ⟨rfl, rfl⟩ (rk_dec (by decide)) rfl rfl (Nat.le_of_ble_eq_true rfl) d_N_put_148 (fun σ1 H locs e1 S => ?_)
                  have hq := hq.trans (ap1_eq e1)
                  have hok := ok_ap1 e1 hok
                  refine lv_goto (tgt := 161) hx hb d_N_put_151 rfl ?_
                  exact ret _ _ _ _ _ S hq d_N_put_161
                · have hq := hq.trans (if_neg h21_20)
                  have hok := ok_neg h21_20 hok
                  have h21_15T := lv_neT (a := 15) h21_15 (by decide)
                  have h21_16T := lv_neT (a := 16) h21_16 (by decide)
                  have h21_17T := lv_neT (a := 17) h21_17 (by decide)
                  have h21_18T := lv_neT (a := 18) h21_18 (by decide)
                  have h21_19T := lv_neT (a := 19) h21_19 (by decide)
                  have h21_20T := lv_neT (a := 20) h21_20 (by decide)
                  refine lv_tableOut (tgt := 154) hx hb d_N_put_21 (by omega) rfl ?_
                  refine lv_aload_n hx hb d_N_put_154 rfl (lv_at hl 0 rfl) ?_
                  refine g_N_9 hx hb hts hown hK S.1 d_N_put_155 ?_
                  refine lv_iload_n hx hb d_N_put_158 rfl (lv_at hl 1 rfl) ?_
                  refine lv_iload_n hx hb d_N_put_159 rfl (lv_at hl 2 rfl) ?_
                  obtain ⟨g1, hok⟩ := hok
                  refine st_C_1 (k := (v1).toNatClampNeg) hx hb hK S g1 rfl d_N_put_160 (fun H locs S => ?_)
                  exact ret _ _ _ _ _ S hq d_N_put_161
    · have hq := hq.trans (if_neg h7)
      have hok := ok_neg h7 hok
      exact B_N_put_10 _ _ _ _ hok (lv_sub hl [] rfl) S hq
set_option maxHeartbeats 4000000 in
set_option maxRecDepth 100000 in
theorem c_N_register (hst : l.stackTraces = false) (v1 : Int32) (σ : nS) (hok : ox_N_register v1 σ) : CxI l D cI cZ (wC cI cZ a) t y_N_register b_N_register 2 { frames := 6, cells := 1, slots := 6, locals := 90 } [.ref (a 0), .int v1] σ (x_N_register v1 σ) := by
  generalize hF : x_N_register v1 σ = F
  refine mexI hst rfl (Nat.le_of_ble_eq_true rfl) (by decide) (by decide) (by decide) (by decide) (fun p e s m args below meth c A Q ls X S hl ret thr => ?_)
  have hq := hF.symm
  obtain ⟨hx, hb, hml, hown, hts, hK, hA, hE, hlk, hEo⟩ := id X
  have hl : lv_has ls 2 [(0, .ref (a 0)), (1, .int v1)] := hl
  have B_N_register_10 : ∀ (σ : nS) (H : Heap) (locs : List Loc) (ls : Array Slot), (ox_N_register_10 σ) → lv_has ls 2 [] → St D (wC cI cZ a) A s σ H locs → F = x_N_register_10 σ → W p l e ({ frames := 6, cells := 1, slots := 6, locals := 90 } : Room) s m args below meth c H locs 0 0 Q (F0 m 10 ls []) := by
    intro σ H locs ls hok hl S hq
    exact thr _ _ _ _ _ 70 "no such register" S hq hl.1 (by decide) d_N_register_10 d_N_register_13 d_N_register_14 d_N_register_16 d_N_register_19
  refine lv_iload_n hx hb d_N_register_0 rfl (lv_at hl 1 rfl) ?_
  refine lv_if_lt (tgt := 10) hx hb d_N_register_1 rfl (fun h1 => ?_) (fun h1 => ?_)
  · have hq := hq.trans (if_pos h1)
    have hok := ok_pos h1 hok
    exact B_N_register_10 _ _ _ _ hok (lv_sub hl [] rfl) S hq
  · have hq := hq.trans (if_neg h1)
    have hok := ok_neg h1 hok
    refine lv_iload_n hx hb d_N_register_4 rfl (lv_at hl 1 rfl) ?_
    refine lv_bipush (v := 20) hx hb d_N_register_5 (by decide) ?_
    refine lv_icmp_le (tgt := 20) hx hb d_N_register_7 rfl (fun h7 => ?_) (fun h7 => ?_)
    · have hq := hq.trans (if_pos h7)
      have hok := ok_pos h7 hok
      refine lv_iload_n hx hb d_N_register_20 rfl (lv_at hl 1 rfl) ?_
      by_cases h21_16 : v1 = (16 : Int32)
      · have hq := hq.trans (if_pos h21_16)
        have hok := ok_pos h21_16 hok
        refine lv_tableIn (off := 35) (tgt := 56) hx hb d_N_register_21 (by rw [h21_16]; decide) (by rw [h21_16]; decide) (by rw [h21_16]; rfl) rfl ?_
        refine lv_aload_n hx hb d_N_register_56 rfl (lv_at hl 0 rfl) ?_
        refine g_N_33 hx hb hts hown hK S.1 d_N_register_57 ?_
        refine g_N_75 hx hb hts hown hK S.1 d_N_register_60 ?_
        refine lv_if_eq (tgt := 70) hx hb d_N_register_63 rfl (fun h63 => ?_) (fun h63 => ?_)
        · have hq := hq.trans (if_pos h63)
          have hok := ok_pos h63 hok
          refine lv_iconst (v := 0) hx hb d_N_register_70 (by decide) ?_
          exact ret _ _ _ _ _ _ S hq d_N_register_71
        · have hq := hq.trans (if_neg h63)
          have hok := ok_neg h63 hok
          refine lv_iconst (v := 1) hx hb d_N_register_66 (by decide) ?_
          refine lv_goto (tgt := 71) hx hb d_N_register_67 rfl ?_
          exact ret _ _ _ _ _ _ S hq d_N_register_71
      · have hq := hq.trans (if_neg h21_16)
        have hok := ok_neg h21_16 hok
        by_cases h21_17 : v1 = (17 : Int32)
        · have hq := hq.trans (if_pos h21_17)
          have hok := ok_pos h21_17 hok
          refine lv_tableIn (off := 51) (tgt := 72) hx hb d_N_register_21 (by rw [h21_17]; decide) (by rw [h21_17]; decide) (by rw [h21_17]; rfl) rfl ?_
          refine lv_aload_n hx hb d_N_register_72 rfl (lv_at hl 0 rfl) ?_
          refine g_N_33 hx hb hts hown hK S.1 d_N_register_73 ?_
          refine g_N_79 hx hb hts hown hK S.1 d_N_register_76 ?_
          refine lv_if_eq (tgt := 86) hx hb d_N_register_79 rfl (fun h79 => ?_) (fun h79 => ?_)
          · have hq := hq.trans (if_pos h79)
            have hok := ok_pos h79 hok
            refine lv_iconst (v := 0) hx hb d_N_register_86 (by decide) ?_
            exact ret _ _ _ _ _ _ S hq d_N_register_87
          · have hq := hq.trans (if_neg h79)
            have hok := ok_neg h79 hok
            refine lv_iconst (v := 1) hx hb d_N_register_82 (by decide) ?_
            refine lv_goto (tgt := 87) hx hb d_N_register_83 rfl ?_
            exact ret _ _ _ _ _ _ S hq d_N_register_87
        · have hq := hq.trans (if_neg h21_17)
          have hok := ok_neg h21_17 hok
          by_cases h21_18 : v1 = (18 : Int32)
          · have hq := hq.trans (if_pos h21_18)
            have hok := ok_pos h21_18 hok
            refine lv_tableIn (off := 67) (tgt := 88) hx hb d_N_register_21 (by rw [h21_18]; decide) (by rw [h21_18]; decide) (by rw [h21_18]; rfl) rfl ?_
            refine lv_aload_n hx hb d_N_register_88 rfl (lv_at hl 0 rfl) ?_
            refine g_N_33 hx hb hts hown hK S.1 d_N_register_89 ?_
            refine g_N_82 hx hb hts hown hK S.1 d_N_register_92 ?_
            exact ret _ _ _ _ _ _ S hq d_N_register_95
          · have hq := hq.trans (if_neg h21_18)
            have hok := ok_neg h21_18 hok
            by_cases h21_19 : v1 = (19 : Int32)
            · have hq := hq.trans (if_pos h21_19)
              have hok := ok_pos h21_19 hok
              refine lv_tableIn (off := 75) (tgt := 96) hx hb d_N_register_21 (by rw [h21_19]; decide) (by rw [h21_19]; decide) (by rw [h21_19]; rfl) rfl ?_
              refine lv_aload_n hx hb d_N_register_96 rfl (lv_at hl 0 rfl) ?_
              refine g_N_33 hx hb hts hown hK S.1 d_N_register_97 ?_
              refine g_N_86 hx hb hts hown hK S.1 d_N_register_100 ?_
              exact ret _ _ _ _ _ _ S hq d_N_register_103
            · have hq := hq.trans (if_neg h21_19)
              have hok := ok_neg h21_19 hok
              by_cases h21_20 : v1 = (20 : Int32)
              · have hq := hq.trans (if_pos h21_20)
                have hok := ok_pos h21_20 hok
                refine lv_tableIn (off := 83) (tgt := 104) hx hb d_N_register_21 (by rw [h21_20]; decide) (by rw [h21_20]; decide) (by rw [h21_20]; rfl) rfl ?_
                refine lv_aload_n hx hb d_N_register_104 rfl (lv_at hl 0 rfl) ?_
                refine g_N_47 hx hb hts hown hK S.1 d_N_register_105 ?_
                refine g_N_93 hx hb hts hown hK S.1 d_N_register_108 ?_
                exact ret _ _ _ _ _ _ S hq d_N_register_111
              · have hq := hq.trans (if_neg h21_20)
                have hok := ok_neg h21_20 hok
                have h21_16T := lv_neT (a := 16) h21_16 (by decide)
                have h21_17T := lv_neT (a := 17) h21_17 (by decide)
                have h21_18T := lv_neT (a := 18) h21_18 (by decide)
                have h21_19T := lv_neT (a := 19) h21_19 (by decide)
                have h21_20T := lv_neT (a := 20) h21_20 (by decide)
                refine lv_tableOut (tgt := 112) hx hb d_N_register_21 (by omega) rfl ?_
                refine lv_aload_n hx hb d_N_register_112 rfl (lv_at hl 0 rfl) ?_
                refine g_N_9 hx hb hts hown hK S.1 d_N_register_113 ?_
                refine lv_iload_n hx hb d_N_register_116 rfl (lv_at hl 1 rfl) ?_
                obtain ⟨g1, hok⟩ := hok
                refine ld_C_1 (k := (v1).toNatClampNeg) hx hb hK S.1 g1 rfl d_N_register_117 ?_
                exact ret _ _ _ _ _ _ S hq d_N_register_118
    · have hq := hq.trans (if_neg h7)
      have hok := ok_neg h7 hok
      exact B_N_register_10 _ _ _ _ hok (lv_sub hl [] rfl) S hq
set_option maxHeartbeats 4000000 in
set_option maxRecDepth 100000 in
theorem c_N_rank (hst : l.stackTraces = false) (v1 : Int32) (v2 : Int32) (v3 : Bool) (σ : nS) (hok : ox_N_rank v1 v2 v3 σ) : CxV l D cI cZ (wC cI cZ a) t y_N_rank b_N_rank 4 { frames := 6, cells := 1, slots := 6, locals := 90 } [.ref (a 0), .int v1, .int v2, .int (bI v3)] σ (x_N_rank v1 v2 v3 σ) := by
  generalize hF : x_N_rank v1 v2 v3 σ = F
  refine mexV hst rfl (Nat.le_of_ble_eq_true rfl) (by decide) (by decide) (by decide) (by decide) (fun p e s m args below meth c A Q ls X S hl ret thr => ?_)
  have hq := hF.symm
  obtain ⟨hx, hb, hml, hown, hts, hK, hA, hE, hlk, hEo⟩ := id X
  have hl : lv_has ls 4 [(0, .ref (a 0)), (1, .int v1), (2, .int v2), (3, .int (bI v3))] := hl
  have B_N_rank_21 : ∀ (σ : nS) (H : Heap) (locs : List Loc) (ls : Array Slot), (ox_N_rank_21 σ) → lv_has ls 4 [] → St D (wC cI cZ a) A s σ H locs → F = x_N_rank_21 σ → W p l e ({ frames := 6, cells := 1, slots := 6, locals := 90 } : Room) s m args below meth c H locs 0 0 Q (F0 m 21 ls []) := by
    intro σ H locs ls hok hl S hq
    exact thr _ _ _ _ _ 96 "no such exception or priority" S hq hl.1 (by decide) d_N_rank_21 d_N_rank_24 d_N_rank_25 d_N_rank_27 d_N_rank_30
  refine lv_iload_n hx hb d_N_rank_0 rfl (lv_at hl 1 rfl) ?_
  refine lv_iconst (v := 4) hx hb d_N_rank_1 (by decide) ?_
  refine lv_icmp_lt (tgt := 21) hx hb d_N_rank_2 rfl (fun h2 => ?_) (fun h2 => ?_)
  · have hq := hq.trans (if_pos h2)
    have hok := ok_pos h2 hok
    exact B_N_rank_21 _ _ _ _ hok (lv_sub hl [] rfl) S hq
  · have hq := hq.trans (if_neg h2)
    have hok := ok_neg h2 hok
    refine lv_iload_n hx hb d_N_rank_5 rfl (lv_at hl 1 rfl) ?_
    refine lv_bipush (v := 15) hx hb d_N_rank_6 (by decide) ?_
    refine lv_icmp_gt (tgt := 21) hx hb d_N_rank_8 rfl (fun h8 => ?_) (fun h8 => ?_)
    · have hq := hq.trans (if_pos h8)
      have hok := ok_pos h8 hok
      exact B_N_rank_21 _ _ _ _ hok (lv_sub hl [] rfl) S hq
    · have hq := hq.trans (if_neg h8)
      have hok := ok_neg h8 hok
      refine lv_iload_n hx hb d_N_rank_11 rfl (lv_at hl 2 rfl) ?_
      refine lv_if_lt (tgt := 21) hx hb d_N_rank_12 rfl (fun h12 => ?_) (fun h12 => ?_)
      · have hq := hq.trans (if_pos h12)
        have hok := ok_pos h12 hok
        exact B_N_rank_21 _ _ _ _ hok (lv_sub hl [] rfl) S hq
      · have hq := hq.trans (if_neg h12)
        have hok := ok_neg h12 hok
        refine lv_iload_n hx hb d_N_rank_15 rfl (lv_at hl 2 rfl) ?_
        refine lv_bipush (v := 7) hx hb d_N_rank_16 (by decide) ?_
        refine lv_icmp_le (tgt := 31) hx hb d_N_rank_18 rfl (fun h18 => ?_) (fun h18 => ?_)
        · have hq := hq.trans (if_pos h18)
          have hok := ok_pos h18 hok
          refine lv_aload_n hx hb d_N_rank_31 rfl (lv_at hl 0 rfl) ?_
          refine g_N_33 hx hb hts hown hK S.1 d_N_rank_32 ?_
          refine lv_iload_n hx hb d_N_rank_35 rfl (lv_at hl 1 rfl) ?_
          refine lv_iload_n hx hb d_N_rank_36 rfl (lv_at hl 2 rfl) ?_
          refine lv_iload_n hx hb d_N_rank_37 rfl (lv_at hl 3 rfl) ?_
          obtain ⟨g1, hok⟩ := hok
          refine callVV X S hl (c_Ex_order v1 v2 v3 _ g1) v_N_98 10 3 ⟨rfl, rfl⟩ (rk_dec (by decide)) rfl rfl (Nat.le_of_ble_eq_true rfl) d_N_rank_38 (fun σ1 H locs e1 S => ?_)
          have hq := hq.trans (ap1_eq e1)
          have hok := ok_ap1 e1 hok
          exact ret _ _ _ _ _ S hq d_N_rank_41
        · have hq := hq.trans (if_neg h18)
          have hok := ok_neg h18 hok
          exact B_N_rank_21 _ _ _ _ hok (lv_sub hl [] rfl) S hq
set_option maxHeartbeats 4000000 in
set_option maxRecDepth 100000 in
theorem c_N_pend (hst : l.stackTraces = false) (v1 : Int32) (v2 : Bool) (σ : nS) (hok : ox_N_pend v1 v2 σ) : CxV l D cI cZ (wC cI cZ a) t y_N_pend b_N_pend 3 { frames := 6, cells := 1, slots := 6, locals := 90 } [.ref (a 0), .int v1, .int (bI v2)] σ (x_N_pend v1 v2 σ) := by
  generalize hF : x_N_pend v1 v2 σ = F
  refine mexV hst rfl (Nat.le_of_ble_eq_true rfl) (by decide) (by decide) (by decide) (by decide) (fun p e s m args below meth c A Q ls X S hl ret thr => ?_)
  have hq := hF.symm
  obtain ⟨hx, hb, hml, hown, hts, hK, hA, hE, hlk, hEo⟩ := id X
  have hl : lv_has ls 3 [(0, .ref (a 0)), (1, .int v1), (2, .int (bI v2))] := hl
  have B_N_pend_11 : ∀ (σ : nS) (H : Heap) (locs : List Loc) (ls : Array Slot), (ox_N_pend_11 σ) → lv_has ls 3 [] → St D (wC cI cZ a) A s σ H locs → F = x_N_pend_11 σ → W p l e ({ frames := 6, cells := 1, slots := 6, locals := 90 } : Room) s m args below meth c H locs 0 0 Q (F0 m 11 ls []) := by
    intro σ H locs ls hok hl S hq
    exact thr _ _ _ _ _ 102 "no such exception" S hq hl.1 (by decide) d_N_pend_11 d_N_pend_14 d_N_pend_15 d_N_pend_17 d_N_pend_20
  refine lv_iload_n hx hb d_N_pend_0 rfl (lv_at hl 1 rfl) ?_
  refine lv_iconst (v := 2) hx hb d_N_pend_1 (by decide) ?_
  refine lv_icmp_lt (tgt := 11) hx hb d_N_pend_2 rfl (fun h2 => ?_) (fun h2 => ?_)
  · have hq := hq.trans (if_pos h2)
    have hok := ok_pos h2 hok
    exact B_N_pend_11 _ _ _ _ hok (lv_sub hl [] rfl) S hq
  · have hq := hq.trans (if_neg h2)
    have hok := ok_neg h2 hok
    refine lv_iload_n hx hb d_N_pend_5 rfl (lv_at hl 1 rfl) ?_
    refine lv_bipush (v := 15) hx hb d_N_pend_6 (by decide) ?_
    refine lv_icmp_le (tgt := 21) hx hb d_N_pend_8 rfl (fun h8 => ?_) (fun h8 => ?_)
    · have hq := hq.trans (if_pos h8)
      have hok := ok_pos h8 hok
      refine lv_aload_n hx hb d_N_pend_21 rfl (lv_at hl 0 rfl) ?_
      refine g_N_33 hx hb hts hown hK S.1 d_N_pend_22 ?_
      refine g_N_104 hx hb hts hown hK S.1 d_N_pend_25 ?_
      refine lv_iload_n hx hb d_N_pend_28 rfl (lv_at hl 1 rfl) ?_
      refine lv_iload_n hx hb d_N_pend_29 rfl (lv_at hl 2 rfl) ?_
      obtain ⟨g1, hok⟩ := hok
      refine st_C_12 (k := (v1).toNatClampNeg) (b := v2) hx hb hK S g1 rfl d_N_pend_30 (fun H locs S => ?_)
      exact ret _ _ _ _ _ S hq d_N_pend_31
    · have hq := hq.trans (if_neg h8)
      have hok := ok_neg h8 hok
      exact B_N_pend_11 _ _ _ _ hok (lv_sub hl [] rfl) S hq
set_option maxHeartbeats 4000000 in
set_option maxRecDepth 100000 in
theorem c_N_area (hst : l.stackTraces = false) (v1 : Int32) (v2 : Int32) (v3 : Int32) (v4 : Int32) (v5 : Bool) (σ : nS) (hok : ox_N_area v1 v2 v3 v4 v5 σ) : CxV l D cI cZ (wC cI cZ a) t y_N_area b_N_area 6 { frames := 6, cells := 1, slots := 6, locals := 90 } [.ref (a 0), .int v1, .int v2, .int v3, .int v4, .int (bI v5)] σ (x_N_area v1 v2 v3 v4 v5 σ) := by
  generalize hF : x_N_area v1 v2 v3 v4 v5 σ = F
  refine mexV hst rfl (Nat.le_of_ble_eq_true rfl) (by decide) (by decide) (by decide) (by decide) (fun p e s m args below meth c A Q ls X S hl ret thr => ?_)
  have hq := hF.symm
  obtain ⟨hx, hb, hml, hown, hts, hK, hA, hE, hlk, hEo⟩ := id X
  have hl : lv_has ls 6 [(0, .ref (a 0)), (1, .int v1), (2, .int v2), (3, .int v3), (4, .int v4), (5, .int (bI v5))] := hl
  have B_N_area_20 : ∀ (σ : nS) (H : Heap) (locs : List Loc) (ls : Array Slot), (ox_N_area_20 σ) → lv_has ls 6 [] → St D (wC cI cZ a) A s σ H locs → F = x_N_area_20 σ → W p l e ({ frames := 6, cells := 1, slots := 6, locals := 90 } : Room) s m args below meth c H locs 0 0 Q (F0 m 20 ls []) := by
    intro σ H locs ls hok hl S hq
    exact thr _ _ _ _ _ 108 "no such area or right" S hq hl.1 (by decide) d_N_area_20 d_N_area_23 d_N_area_24 d_N_area_26 d_N_area_29
  have B_N_area_47 : ∀ (σ : nS) (H : Heap) (locs : List Loc) (ls : Array Slot), (ox_N_area_47 σ) → lv_has ls 6 [] → St D (wC cI cZ a) A s σ H locs → F = x_N_area_47 σ → W p l e ({ frames := 6, cells := 1, slots := 6, locals := 90 } : Room) s m args below meth c H locs 0 0 Q (F0 m 47 ls []) := by
    intro σ H locs ls hok hl S hq
    exact thr _ _ _ _ _ 110 "not all in memory" S hq hl.1 (by decide) d_N_area_47 d_N_area_50 d_N_area_51 d_N_area_53 d_N_area_56
  refine lv_iload_n hx hb d_N_area_0 rfl (lv_at hl 1 rfl) ?_
  refine lv_if_lt (tgt := 20) hx hb d_N_area_1 rfl (fun h1 => ?_) (fun h1 => ?_)
  · have hq := hq.trans (if_pos h1)
    have hok := ok_pos h1 hok
    exact B_N_area_20 _ _ _ _ hok (lv_sub hl [] rfl) S hq
  · have hq := hq.trans (if_neg h1)
    have hok := ok_neg h1 hok
    refine lv_iload_n hx hb d_N_area_4 rfl (lv_at hl 1 rfl) ?_
    refine lv_iconst (v := 4) hx hb d_N_area_5 (by decide) ?_
    refine lv_icmp_ge (tgt := 20) hx hb d_N_area_6 rfl (fun h6 => ?_) (fun h6 => ?_)
    · have hq := hq.trans (if_pos h6)
      have hok := ok_pos h6 hok
      exact B_N_area_20 _ _ _ _ hok (lv_sub hl [] rfl) S hq
    · have hq := hq.trans (if_neg h6)
      have hok := ok_neg h6 hok
      refine lv_iload hx hb d_N_area_9 (lv_at hl 4 rfl) ?_
      refine lv_if_lt (tgt := 20) hx hb d_N_area_11 rfl (fun h11 => ?_) (fun h11 => ?_)
      · have hq := hq.trans (if_pos h11)
        have hok := ok_pos h11 hok
        exact B_N_area_20 _ _ _ _ hok (lv_sub hl [] rfl) S hq
      · have hq := hq.trans (if_neg h11)
        have hok := ok_neg h11 hok
        refine lv_iload hx hb d_N_area_14 (lv_at hl 4 rfl) ?_
        refine lv_iconst (v := 2) hx hb d_N_area_16 (by decide) ?_
        refine lv_icmp_le (tgt := 30) hx hb d_N_area_17 rfl (fun h17 => ?_) (fun h17 => ?_)
        · have hq := hq.trans (if_pos h17)
          have hok := ok_pos h17 hok
          refine lv_iload_n hx hb d_N_area_30 rfl (lv_at hl 2 rfl) ?_
          refine lv_if_lt (tgt := 47) hx hb d_N_area_31 rfl (fun h31 => ?_) (fun h31 => ?_)
          · have hq := hq.trans (if_pos h31)
            have hok := ok_pos h31 hok
            exact B_N_area_47 _ _ _ _ hok (lv_sub hl [] rfl) S hq
          · have hq := hq.trans (if_neg h31)
            have hok := ok_neg h31 hok
            refine lv_iload_n hx hb d_N_area_34 rfl (lv_at hl 3 rfl) ?_
            refine lv_if_lt (tgt := 47) hx hb d_N_area_35 rfl (fun h35 => ?_) (fun h35 => ?_)
            · have hq := hq.trans (if_pos h35)
              have hok := ok_pos h35 hok
              exact B_N_area_47 _ _ _ _ hok (lv_sub hl [] rfl) S hq
            · have hq := hq.trans (if_neg h35)
              have hok := ok_neg h35 hok
              refine lv_iload_n hx hb d_N_area_38 rfl (lv_at hl 2 rfl) ?_
              refine lv_sipush (v := 1024) hx hb d_N_area_39 (by decide) ?_
              refine lv_iload_n hx hb d_N_area_42 rfl (lv_at hl 3 rfl) ?_
              refine lv_isub hx hb d_N_area_43 ?_
              refine lv_icmp_le (tgt := 57) hx hb d_N_area_44 rfl (fun h44 => ?_) (fun h44 => ?_)
              · have hq := hq.trans (if_pos h44)
                have hok := ok_pos h44 hok
                refine lv_aload_n hx hb d_N_area_57 rfl (lv_at hl 0 rfl) ?_
                refine g_N_26 hx hb hts hown hK S.1 d_N_area_58 ?_
                refine lv_iload_n hx hb d_N_area_61 rfl (lv_at hl 1 rfl) ?_
                refine lv_iload_n hx hb d_N_area_62 rfl (lv_at hl 2 rfl) ?_
                refine lv_iload_n hx hb d_N_area_63 rfl (lv_at hl 3 rfl) ?_
                refine lv_iload hx hb d_N_area_64 (lv_at hl 4 rfl) ?_
                refine lv_iload hx hb d_N_area_66 (lv_at hl 5 rfl) ?_
                obtain ⟨g1, hok⟩ := hok
                refine callVV X S hl (c_Ar_lay v1 v2 v3 v4 v5 _ g1) v_N_112 5 2 ⟨rfl, rfl⟩ (rk_dec (by decide)) rfl rfl (Nat.le_of_ble_eq_true rfl) d_N_area_68 (fun σ1 H locs e1 S => ?_)
                have hq := hq.trans (ap1_eq e1)
                have hok := ok_ap1 e1 hok
                exact ret _ _ _ _ _ S hq d_N_area_71
              · have hq := hq.trans (if_neg h44)
                have hok := ok_neg h44 hok
                exact B_N_area_47 _ _ _ _ hok (lv_sub hl [] rfl) S hq
        · have hq := hq.trans (if_neg h17)
          have hok := ok_neg h17 hok
          exact B_N_area_20 _ _ _ _ hok (lv_sub hl [] rfl) S hq
set_option maxHeartbeats 4000000 in
set_option maxRecDepth 100000 in
theorem c_N_run (hst : l.stackTraces = false) (v1 : Int32) (σ : nS) (hok : ox_N_run v1 σ) : CxI l D cI cZ (wC cI cZ a) t y_N_run b_N_run 3 { frames := 6, cells := 1, slots := 6, locals := 176 } [.ref (a 0), .int v1] σ (x_N_run v1 σ) := by
  generalize hF : x_N_run v1 σ = F
  refine mexI hst rfl (Nat.le_of_ble_eq_true rfl) (by decide) (by decide) (by decide) (by decide) (fun p e s m args below meth c A Q ls X S hl ret thr => ?_)
  have hq := hF.symm
  obtain ⟨hx, hb, hml, hown, hts, hK, hA, hE, hlk, hEo⟩ := id X
  have hl : lv_has ls 3 [(0, .ref (a 0)), (1, .int v1)] := hl
  have B_N_run_11 : ∀ (σ : nS) (H : Heap) (locs : List Loc) (ls : Array Slot), (ox_N_run_11 σ) → lv_has ls 3 [] → St D (wC cI cZ a) A s σ H locs → F = x_N_run_11 σ → W p l e ({ frames := 6, cells := 1, slots := 6, locals := 176 } : Room) s m args below meth c H locs 0 0 Q (F0 m 11 ls []) := by
    intro σ H locs ls hok hl S hq
    exact thr _ _ _ _ _ 116 "not 1 to 25 steps" S hq hl.1 (by decide) d_N_run_11 d_N_run_14 d_N_run_15 d_N_run_17 d_N_run_20
  have B_N_run_45_0 : ∀ (σ : nS) (H : Heap) (locs : List Loc) (ls : Array Slot), (ox_N_run_45_0 σ) → lv_has ls 3 [(2, .int (0 : Int32))] → St D (wC cI cZ a) A s σ H locs → F = x_N_run_45_0 σ → W p l e ({ frames := 6, cells := 1, slots := 6, locals := 176 } : Room) s m args below meth c H locs 0 0 Q (F0 m 45 ls []) := by
    intro σ H locs ls hok hl S hq
    refine lv_iload_n hx hb d_N_run_45 rfl (lv_at hl 0 rfl) ?_
    exact ret _ _ _ _ _ _ S hq d_N_run_46
  have B_N_run_45_1 : ∀ (σ : nS) (H : Heap) (locs : List Loc) (ls : Array Slot), (ox_N_run_45_1 σ) → lv_has ls 3 [(2, .int (1 : Int32))] → St D (wC cI cZ a) A s σ H locs → F = x_N_run_45_1 σ → W p l e ({ frames := 6, cells := 1, slots := 6, locals := 176 } : Room) s m args below meth c H locs 0 0 Q (F0 m 45 ls []) := by
    intro σ H locs ls hok hl S hq
    refine lv_iload_n hx hb d_N_run_45 rfl (lv_at hl 0 rfl) ?_
    exact ret _ _ _ _ _ _ S hq d_N_run_46
  have B_N_run_45_2 : ∀ (σ : nS) (H : Heap) (locs : List Loc) (ls : Array Slot), (ox_N_run_45_2 σ) → lv_has ls 3 [(2, .int (2 : Int32))] → St D (wC cI cZ a) A s σ H locs → F = x_N_run_45_2 σ → W p l e ({ frames := 6, cells := 1, slots := 6, locals := 176 } : Room) s m args below meth c H locs 0 0 Q (F0 m 45 ls []) := by
    intro σ H locs ls hok hl S hq
    refine lv_iload_n hx hb d_N_run_45 rfl (lv_at hl 0 rfl) ?_
    exact ret _ _ _ _ _ _ S hq d_N_run_46
  have B_N_run_45_3 : ∀ (σ : nS) (H : Heap) (locs : List Loc) (ls : Array Slot), (ox_N_run_45_3 σ) → lv_has ls 3 [(2, .int (3 : Int32))] → St D (wC cI cZ a) A s σ H locs → F = x_N_run_45_3 σ → W p l e ({ frames := 6, cells := 1, slots := 6, locals := 176 } : Room) s m args below meth c H locs 0 0 Q (F0 m 45 ls []) := by
    intro σ H locs ls hok hl S hq
    refine lv_iload_n hx hb d_N_run_45 rfl (lv_at hl 0 rfl) ?_
    exact ret _ _ _ _ _ _ S hq d_N_run_46
  have B_N_run_45_4 : ∀ (σ : nS) (H : Heap) (locs : List Loc) (ls : Array Slot), (ox_N_run_45_4 σ) → lv_has ls 3 [(2, .int (4 : Int32))] → St D (wC cI cZ a) A s σ H locs → F = x_N_run_45_4 σ → W p l e ({ frames := 6, cells := 1, slots := 6, locals := 176 } : Room) s m args below meth c H locs 0 0 Q (F0 m 45 ls []) := by
    intro σ H locs ls hok hl S hq
    refine lv_iload_n hx hb d_N_run_45 rfl (lv_at hl 0 rfl) ?_
    exact ret _ _ _ _ _ _ S hq d_N_run_46
  have B_N_run_45_5 : ∀ (σ : nS) (H : Heap) (locs : List Loc) (ls : Array Slot), (ox_N_run_45_5 σ) → lv_has ls 3 [(2, .int (5 : Int32))] → St D (wC cI cZ a) A s σ H locs → F = x_N_run_45_5 σ → W p l e ({ frames := 6, cells := 1, slots := 6, locals := 176 } : Room) s m args below meth c H locs 0 0 Q (F0 m 45 ls []) := by
    intro σ H locs ls hok hl S hq
    refine lv_iload_n hx hb d_N_run_45 rfl (lv_at hl 0 rfl) ?_
    exact ret _ _ _ _ _ _ S hq d_N_run_46
  have B_N_run_45_6 : ∀ (σ : nS) (H : Heap) (locs : List Loc) (ls : Array Slot), (ox_N_run_45_6 σ) → lv_has ls 3 [(2, .int (6 : Int32))] → St D (wC cI cZ a) A s σ H locs → F = x_N_run_45_6 σ → W p l e ({ frames := 6, cells := 1, slots := 6, locals := 176 } : Room) s m args below meth c H locs 0 0 Q (F0 m 45 ls []) := by
    intro σ H locs ls hok hl S hq
    refine lv_iload_n hx hb d_N_run_45 rfl (lv_at hl 0 rfl) ?_
    exact ret _ _ _ _ _ _ S hq d_N_run_46
  have B_N_run_45_7 : ∀ (σ : nS) (H : Heap) (locs : List Loc) (ls : Array Slot), (ox_N_run_45_7 σ) → lv_has ls 3 [(2, .int (7 : Int32))] → St D (wC cI cZ a) A s σ H locs → F = x_N_run_45_7 σ → W p l e ({ frames := 6, cells := 1, slots := 6, locals := 176 } : Room) s m args below meth c H locs 0 0 Q (F0 m 45 ls []) := by
    intro σ H locs ls hok hl S hq
    refine lv_iload_n hx hb d_N_run_45 rfl (lv_at hl 0 rfl) ?_
    exact ret _ _ _ _ _ _ S hq d_N_run_46
  have B_N_run_45_8 : ∀ (σ : nS) (H : Heap) (locs : List Loc) (ls : Array Slot), (ox_N_run_45_8 σ) → lv_has ls 3 [(2, .int (8 : Int32))] → St D (wC cI cZ a) A s σ H locs → F = x_N_run_45_8 σ → W p l e ({ frames := 6, cells := 1, slots := 6, locals := 176 } : Room) s m args below meth c H locs 0 0 Q (F0 m 45 ls []) := by
    intro σ H locs ls hok hl S hq
    refine lv_iload_n hx hb d_N_run_45 rfl (lv_at hl 0 rfl) ?_
    exact ret _ _ _ _ _ _ S hq d_N_run_46
  have B_N_run_45_9 : ∀ (σ : nS) (H : Heap) (locs : List Loc) (ls : Array Slot), (ox_N_run_45_9 σ) → lv_has ls 3 [(2, .int (9 : Int32))] → St D (wC cI cZ a) A s σ H locs → F = x_N_run_45_9 σ → W p l e ({ frames := 6, cells := 1, slots := 6, locals := 176 } : Room) s m args below meth c H locs 0 0 Q (F0 m 45 ls []) := by
    intro σ H locs ls hok hl S hq
    refine lv_iload_n hx hb d_N_run_45 rfl (lv_at hl 0 rfl) ?_
    exact ret _ _ _ _ _ _ S hq d_N_run_46
  have B_N_run_45_10 : ∀ (σ : nS) (H : Heap) (locs : List Loc) (ls : Array Slot), (ox_N_run_45_10 σ) → lv_has ls 3 [(2, .int (10 : Int32))] → St D (wC cI cZ a) A s σ H locs → F = x_N_run_45_10 σ → W p l e ({ frames := 6, cells := 1, slots := 6, locals := 176 } : Room) s m args below meth c H locs 0 0 Q (F0 m 45 ls []) := by
    intro σ H locs ls hok hl S hq
    refine lv_iload_n hx hb d_N_run_45 rfl (lv_at hl 0 rfl) ?_
    exact ret _ _ _ _ _ _ S hq d_N_run_46
  have B_N_run_45_11 : ∀ (σ : nS) (H : Heap) (locs : List Loc) (ls : Array Slot), (ox_N_run_45_11 σ) → lv_has ls 3 [(2, .int (11 : Int32))] → St D (wC cI cZ a) A s σ H locs → F = x_N_run_45_11 σ → W p l e ({ frames := 6, cells := 1, slots := 6, locals := 176 } : Room) s m args below meth c H locs 0 0 Q (F0 m 45 ls []) := by
    intro σ H locs ls hok hl S hq
    refine lv_iload_n hx hb d_N_run_45 rfl (lv_at hl 0 rfl) ?_
    exact ret _ _ _ _ _ _ S hq d_N_run_46
  have B_N_run_45_12 : ∀ (σ : nS) (H : Heap) (locs : List Loc) (ls : Array Slot), (ox_N_run_45_12 σ) → lv_has ls 3 [(2, .int (12 : Int32))] → St D (wC cI cZ a) A s σ H locs → F = x_N_run_45_12 σ → W p l e ({ frames := 6, cells := 1, slots := 6, locals := 176 } : Room) s m args below meth c H locs 0 0 Q (F0 m 45 ls []) := by
    intro σ H locs ls hok hl S hq
    refine lv_iload_n hx hb d_N_run_45 rfl (lv_at hl 0 rfl) ?_
    exact ret _ _ _ _ _ _ S hq d_N_run_46
  have B_N_run_45_13 : ∀ (σ : nS) (H : Heap) (locs : List Loc) (ls : Array Slot), (ox_N_run_45_13 σ) → lv_has ls 3 [(2, .int (13 : Int32))] → St D (wC cI cZ a) A s σ H locs → F = x_N_run_45_13 σ → W p l e ({ frames := 6, cells := 1, slots := 6, locals := 176 } : Room) s m args below meth c H locs 0 0 Q (F0 m 45 ls []) := by
    intro σ H locs ls hok hl S hq
    refine lv_iload_n hx hb d_N_run_45 rfl (lv_at hl 0 rfl) ?_
    exact ret _ _ _ _ _ _ S hq d_N_run_46
  have B_N_run_45_14 : ∀ (σ : nS) (H : Heap) (locs : List Loc) (ls : Array Slot), (ox_N_run_45_14 σ) → lv_has ls 3 [(2, .int (14 : Int32))] → St D (wC cI cZ a) A s σ H locs → F = x_N_run_45_14 σ → W p l e ({ frames := 6, cells := 1, slots := 6, locals := 176 } : Room) s m args below meth c H locs 0 0 Q (F0 m 45 ls []) := by
    intro σ H locs ls hok hl S hq
    refine lv_iload_n hx hb d_N_run_45 rfl (lv_at hl 0 rfl) ?_
    exact ret _ _ _ _ _ _ S hq d_N_run_46
  have B_N_run_45_15 : ∀ (σ : nS) (H : Heap) (locs : List Loc) (ls : Array Slot), (ox_N_run_45_15 σ) → lv_has ls 3 [(2, .int (15 : Int32))] → St D (wC cI cZ a) A s σ H locs → F = x_N_run_45_15 σ → W p l e ({ frames := 6, cells := 1, slots := 6, locals := 176 } : Room) s m args below meth c H locs 0 0 Q (F0 m 45 ls []) := by
    intro σ H locs ls hok hl S hq
    refine lv_iload_n hx hb d_N_run_45 rfl (lv_at hl 0 rfl) ?_
    exact ret _ _ _ _ _ _ S hq d_N_run_46
  have B_N_run_45_16 : ∀ (σ : nS) (H : Heap) (locs : List Loc) (ls : Array Slot), (ox_N_run_45_16 σ) → lv_has ls 3 [(2, .int (16 : Int32))] → St D (wC cI cZ a) A s σ H locs → F = x_N_run_45_16 σ → W p l e ({ frames := 6, cells := 1, slots := 6, locals := 176 } : Room) s m args below meth c H locs 0 0 Q (F0 m 45 ls []) := by
    intro σ H locs ls hok hl S hq
    refine lv_iload_n hx hb d_N_run_45 rfl (lv_at hl 0 rfl) ?_
    exact ret _ _ _ _ _ _ S hq d_N_run_46
  have B_N_run_45_17 : ∀ (σ : nS) (H : Heap) (locs : List Loc) (ls : Array Slot), (ox_N_run_45_17 σ) → lv_has ls 3 [(2, .int (17 : Int32))] → St D (wC cI cZ a) A s σ H locs → F = x_N_run_45_17 σ → W p l e ({ frames := 6, cells := 1, slots := 6, locals := 176 } : Room) s m args below meth c H locs 0 0 Q (F0 m 45 ls []) := by
    intro σ H locs ls hok hl S hq
    refine lv_iload_n hx hb d_N_run_45 rfl (lv_at hl 0 rfl) ?_
    exact ret _ _ _ _ _ _ S hq d_N_run_46
  have B_N_run_45_18 : ∀ (σ : nS) (H : Heap) (locs : List Loc) (ls : Array Slot), (ox_N_run_45_18 σ) → lv_has ls 3 [(2, .int (18 : Int32))] → St D (wC cI cZ a) A s σ H locs → F = x_N_run_45_18 σ → W p l e ({ frames := 6, cells := 1, slots := 6, locals := 176 } : Room) s m args below meth c H locs 0 0 Q (F0 m 45 ls []) := by
    intro σ H locs ls hok hl S hq
    refine lv_iload_n hx hb d_N_run_45 rfl (lv_at hl 0 rfl) ?_
    exact ret _ _ _ _ _ _ S hq d_N_run_46
  have B_N_run_45_19 : ∀ (σ : nS) (H : Heap) (locs : List Loc) (ls : Array Slot), (ox_N_run_45_19 σ) → lv_has ls 3 [(2, .int (19 : Int32))] → St D (wC cI cZ a) A s σ H locs → F = x_N_run_45_19 σ → W p l e ({ frames := 6, cells := 1, slots := 6, locals := 176 } : Room) s m args below meth c H locs 0 0 Q (F0 m 45 ls []) := by
    intro σ H locs ls hok hl S hq
    refine lv_iload_n hx hb d_N_run_45 rfl (lv_at hl 0 rfl) ?_
    exact ret _ _ _ _ _ _ S hq d_N_run_46
  have B_N_run_45_20 : ∀ (σ : nS) (H : Heap) (locs : List Loc) (ls : Array Slot), (ox_N_run_45_20 σ) → lv_has ls 3 [(2, .int (20 : Int32))] → St D (wC cI cZ a) A s σ H locs → F = x_N_run_45_20 σ → W p l e ({ frames := 6, cells := 1, slots := 6, locals := 176 } : Room) s m args below meth c H locs 0 0 Q (F0 m 45 ls []) := by
    intro σ H locs ls hok hl S hq
    refine lv_iload_n hx hb d_N_run_45 rfl (lv_at hl 0 rfl) ?_
    exact ret _ _ _ _ _ _ S hq d_N_run_46
  have B_N_run_45_21 : ∀ (σ : nS) (H : Heap) (locs : List Loc) (ls : Array Slot), (ox_N_run_45_21 σ) → lv_has ls 3 [(2, .int (21 : Int32))] → St D (wC cI cZ a) A s σ H locs → F = x_N_run_45_21 σ → W p l e ({ frames := 6, cells := 1, slots := 6, locals := 176 } : Room) s m args below meth c H locs 0 0 Q (F0 m 45 ls []) := by
    intro σ H locs ls hok hl S hq
    refine lv_iload_n hx hb d_N_run_45 rfl (lv_at hl 0 rfl) ?_
    exact ret _ _ _ _ _ _ S hq d_N_run_46
  have B_N_run_45_22 : ∀ (σ : nS) (H : Heap) (locs : List Loc) (ls : Array Slot), (ox_N_run_45_22 σ) → lv_has ls 3 [(2, .int (22 : Int32))] → St D (wC cI cZ a) A s σ H locs → F = x_N_run_45_22 σ → W p l e ({ frames := 6, cells := 1, slots := 6, locals := 176 } : Room) s m args below meth c H locs 0 0 Q (F0 m 45 ls []) := by
    intro σ H locs ls hok hl S hq
    refine lv_iload_n hx hb d_N_run_45 rfl (lv_at hl 0 rfl) ?_
    exact ret _ _ _ _ _ _ S hq d_N_run_46
  have B_N_run_45_23 : ∀ (σ : nS) (H : Heap) (locs : List Loc) (ls : Array Slot), (ox_N_run_45_23 σ) → lv_has ls 3 [(2, .int (23 : Int32))] → St D (wC cI cZ a) A s σ H locs → F = x_N_run_45_23 σ → W p l e ({ frames := 6, cells := 1, slots := 6, locals := 176 } : Room) s m args below meth c H locs 0 0 Q (F0 m 45 ls []) := by
    intro σ H locs ls hok hl S hq
    refine lv_iload_n hx hb d_N_run_45 rfl (lv_at hl 0 rfl) ?_
    exact ret _ _ _ _ _ _ S hq d_N_run_46
  have B_N_run_45_24 : ∀ (σ : nS) (H : Heap) (locs : List Loc) (ls : Array Slot), (ox_N_run_45_24 σ) → lv_has ls 3 [(2, .int (24 : Int32))] → St D (wC cI cZ a) A s σ H locs → F = x_N_run_45_24 σ → W p l e ({ frames := 6, cells := 1, slots := 6, locals := 176 } : Room) s m args below meth c H locs 0 0 Q (F0 m 45 ls []) := by
    intro σ H locs ls hok hl S hq
    refine lv_iload_n hx hb d_N_run_45 rfl (lv_at hl 0 rfl) ?_
    exact ret _ _ _ _ _ _ S hq d_N_run_46
  have B_N_run_45_25 : ∀ (σ : nS) (H : Heap) (locs : List Loc) (ls : Array Slot), (ox_N_run_45_25 σ) → lv_has ls 3 [(2, .int (25 : Int32))] → St D (wC cI cZ a) A s σ H locs → F = x_N_run_45_25 σ → W p l e ({ frames := 6, cells := 1, slots := 6, locals := 176 } : Room) s m args below meth c H locs 0 0 Q (F0 m 45 ls []) := by
    intro σ H locs ls hok hl S hq
    refine lv_iload_n hx hb d_N_run_45 rfl (lv_at hl 0 rfl) ?_
    exact ret _ _ _ _ _ _ S hq d_N_run_46
  have B_N_run_23_25 : ∀ (v1 : Int32) (σ : nS) (H : Heap) (locs : List Loc) (ls : Array Slot), (ox_N_run_23_25 v1 σ) → lv_has ls 3 [(0, .ref (a 0)), (1, .int v1), (2, .int (25 : Int32))] → St D (wC cI cZ a) A s σ H locs → F = x_N_run_23_25 v1 σ → W p l e ({ frames := 6, cells := 1, slots := 6, locals := 176 } : Room) s m args below meth c H locs 0 0 Q (F0 m 23 ls []) := by
    intro v1 σ H locs ls hok hl S hq
    refine lv_iload_n hx hb d_N_run_23 rfl (lv_at hl 2 rfl) ?_
    refine lv_iload_n hx hb d_N_run_24 rfl (lv_at hl 1 rfl) ?_
    obtain ⟨g1, hok⟩ := hok
    refine lv_icmp_ge (tgt := 45) hx hb d_N_run_25 rfl (fun _ => ?_) (fun h9 => absurd (g1) h9)
    exact B_N_run_45_25 _ _ _ _ hok (lv_sub hl [2] rfl) S hq
  have B_N_run_23_24 : ∀ (v1 : Int32) (σ : nS) (H : Heap) (locs : List Loc) (ls : Array Slot), (ox_N_run_23_24 v1 σ) → lv_has ls 3 [(0, .ref (a 0)), (1, .int v1), (2, .int (24 : Int32))] → St D (wC cI cZ a) A s σ H locs → F = x_N_run_23_24 v1 σ → W p l e ({ frames := 6, cells := 1, slots := 6, locals := 176 } : Room) s m args below meth c H locs 0 0 Q (F0 m 23 ls []) := by
    intro v1 σ H locs ls hok hl S hq
    refine lv_iload_n hx hb d_N_run_23 rfl (lv_at hl 2 rfl) ?_
    refine lv_iload_n hx hb d_N_run_24 rfl (lv_at hl 1 rfl) ?_
    refine lv_icmp_ge (tgt := 45) hx hb d_N_run_25 rfl (fun h25 => ?_) (fun h25 => ?_)
    · have hq := hq.trans (if_pos h25)
      have hok := ok_pos h25 hok
      exact B_N_run_45_24 _ _ _ _ hok (lv_sub hl [2] rfl) S hq
    · have hq := hq.trans (if_neg h25)
      have hok := ok_neg h25 hok
      refine lv_aload_n hx hb d_N_run_28 rfl (lv_at hl 0 rfl) ?_
      refine g_N_118 hx hb hts hown hK S.1 d_N_run_29 ?_
      refine lv_if_ne (tgt := 45) hx hb d_N_run_32 rfl (fun h32 => ?_) (fun h32 => ?_)
      · have hq := hq.trans (if_neg h32)
        have hok := ok_neg h32 hok
        exact B_N_run_45_24 _ _ _ _ hok (lv_sub hl [2] rfl) S hq
      · have hq := hq.trans (if_pos h32)
        have hok := ok_pos h32 hok
        refine lv_aload_n hx hb d_N_run_35 rfl (lv_at hl 0 rfl) ?_
        obtain ⟨g2, hok⟩ := hok
        refine callVV X S hl (c_N_step _ g2) v_N_121 0 0 ⟨rfl, rfl⟩ (rk_dec (by decide)) rfl rfl (Nat.le_of_ble_eq_true rfl) d_N_run_36 (fun σ1 H locs e1 S => ?_)
        have hq := hq.trans (ap1_eq e1)
        have hok := ok_ap1 e1 hok
        refine lv_iinc (k := 2) (v := (25 : Int32)) hx hb d_N_run_39 hl rfl (by first | rfl | decide) (by decide) rfl (fun ls hl => ?_)
        refine lv_goto (tgt := 23) hx hb d_N_run_42 rfl ?_
        exact B_N_run_23_25 _ _ _ _ _ hok (lv_sub hl [1, 2, 0] rfl) S hq
  have B_N_run_23_23 : ∀ (v1 : Int32) (σ : nS) (H : Heap) (locs : List Loc) (ls : Array Slot), (ox_N_run_23_23 v1 σ) → lv_has ls 3 [(0, .ref (a 0)), (1, .int v1), (2, .int (23 : Int32))] → St D (wC cI cZ a) A s σ H locs → F = x_N_run_23_23 v1 σ → W p l e ({ frames := 6, cells := 1, slots := 6, locals := 176 } : Room) s m args below meth c H locs 0 0 Q (F0 m 23 ls []) := by
    intro v1 σ H locs ls hok hl S hq
    refine lv_iload_n hx hb d_N_run_23 rfl (lv_at hl 2 rfl) ?_
    refine lv_iload_n hx hb d_N_run_24 rfl (lv_at hl 1 rfl) ?_
    refine lv_icmp_ge (tgt := 45) hx hb d_N_run_25 rfl (fun h25 => ?_) (fun h25 => ?_)
    · have hq := hq.trans (if_pos h25)
      have hok := ok_pos h25 hok
      exact B_N_run_45_23 _ _ _ _ hok (lv_sub hl [2] rfl) S hq
    · have hq := hq.trans (if_neg h25)
      have hok := ok_neg h25 hok
      refine lv_aload_n hx hb d_N_run_28 rfl (lv_at hl 0 rfl) ?_
      refine g_N_118 hx hb hts hown hK S.1 d_N_run_29 ?_
      refine lv_if_ne (tgt := 45) hx hb d_N_run_32 rfl (fun h32 => ?_) (fun h32 => ?_)
      · have hq := hq.trans (if_neg h32)
        have hok := ok_neg h32 hok
        exact B_N_run_45_23 _ _ _ _ hok (lv_sub hl [2] rfl) S hq
      · have hq := hq.trans (if_pos h32)
        have hok := ok_pos h32 hok
        refine lv_aload_n hx hb d_N_run_35 rfl (lv_at hl 0 rfl) ?_
        obtain ⟨g3, hok⟩ := hok
        refine callVV X S hl (c_N_step _ g3) v_N_121 0 0 ⟨rfl, rfl⟩ (rk_dec (by decide)) rfl rfl (Nat.le_of_ble_eq_true rfl) d_N_run_36 (fun σ1 H locs e1 S => ?_)
        have hq := hq.trans (ap1_eq e1)
        have hok := ok_ap1 e1 hok
        refine lv_iinc (k := 2) (v := (24 : Int32)) hx hb d_N_run_39 hl rfl (by first | rfl | decide) (by decide) rfl (fun ls hl => ?_)
        refine lv_goto (tgt := 23) hx hb d_N_run_42 rfl ?_
        exact B_N_run_23_24 _ _ _ _ _ hok (lv_sub hl [1, 2, 0] rfl) S hq
  have B_N_run_23_22 : ∀ (v1 : Int32) (σ : nS) (H : Heap) (locs : List Loc) (ls : Array Slot), (ox_N_run_23_22 v1 σ) → lv_has ls 3 [(0, .ref (a 0)), (1, .int v1), (2, .int (22 : Int32))] → St D (wC cI cZ a) A s σ H locs → F = x_N_run_23_22 v1 σ → W p l e ({ frames := 6, cells := 1, slots := 6, locals := 176 } : Room) s m args below meth c H locs 0 0 Q (F0 m 23 ls []) := by
    intro v1 σ H locs ls hok hl S hq
    refine lv_iload_n hx hb d_N_run_23 rfl (lv_at hl 2 rfl) ?_
    refine lv_iload_n hx hb d_N_run_24 rfl (lv_at hl 1 rfl) ?_
    refine lv_icmp_ge (tgt := 45) hx hb d_N_run_25 rfl (fun h25 => ?_) (fun h25 => ?_)
    · have hq := hq.trans (if_pos h25)
      have hok := ok_pos h25 hok
      exact B_N_run_45_22 _ _ _ _ hok (lv_sub hl [2] rfl) S hq
    · have hq := hq.trans (if_neg h25)
      have hok := ok_neg h25 hok
      refine lv_aload_n hx hb d_N_run_28 rfl (lv_at hl 0 rfl) ?_
      refine g_N_118 hx hb hts hown hK S.1 d_N_run_29 ?_
      refine lv_if_ne (tgt := 45) hx hb d_N_run_32 rfl (fun h32 => ?_) (fun h32 => ?_)
      · have hq := hq.trans (if_neg h32)
        have hok := ok_neg h32 hok
        exact B_N_run_45_22 _ _ _ _ hok (lv_sub hl [2] rfl) S hq
      · have hq := hq.trans (if_pos h32)
        have hok := ok_pos h32 hok
        refine lv_aload_n hx hb d_N_run_35 rfl (lv_at hl 0 rfl) ?_
        obtain ⟨g4, hok⟩ := hok
        refine callVV X S hl (c_N_step _ g4) v_N_121 0 0 ⟨rfl, rfl⟩ (rk_dec (by decide)) rfl rfl (Nat.le_of_ble_eq_true rfl) d_N_run_36 (fun σ1 H locs e1 S => ?_)
        have hq := hq.trans (ap1_eq e1)
        have hok := ok_ap1 e1 hok
        refine lv_iinc (k := 2) (v := (23 : Int32)) hx hb d_N_run_39 hl rfl (by first | rfl | decide) (by decide) rfl (fun ls hl => ?_)
        refine lv_goto (tgt := 23) hx hb d_N_run_42 rfl ?_
        exact B_N_run_23_23 _ _ _ _ _ hok (lv_sub hl [1, 2, 0] rfl) S hq
  have B_N_run_23_21 : ∀ (v1 : Int32) (σ : nS) (H : Heap) (locs : List Loc) (ls : Array Slot), (ox_N_run_23_21 v1 σ) → lv_has ls 3 [(0, .ref (a 0)), (1, .int v1), (2, .int (21 : Int32))] → St D (wC cI cZ a) A s σ H locs → F = x_N_run_23_21 v1 σ → W p l e ({ frames := 6, cells := 1, slots := 6, locals := 176 } : Room) s m args below meth c H locs 0 0 Q (F0 m 23 ls []) := by
    intro v1 σ H locs ls hok hl S hq
    refine lv_iload_n hx hb d_N_run_23 rfl (lv_at hl 2 rfl) ?_
    refine lv_iload_n hx hb d_N_run_24 rfl (lv_at hl 1 rfl) ?_
    refine lv_icmp_ge (tgt := 45) hx hb d_N_run_25 rfl (fun h25 => ?_) (fun h25 => ?_)
    · have hq := hq.trans (if_pos h25)
      have hok := ok_pos h25 hok
      exact B_N_run_45_21 _ _ _ _ hok (lv_sub hl [2] rfl) S hq
    · have hq := hq.trans (if_neg h25)
      have hok := ok_neg h25 hok
      refine lv_aload_n hx hb d_N_run_28 rfl (lv_at hl 0 rfl) ?_
      refine g_N_118 hx hb hts hown hK S.1 d_N_run_29 ?_
      refine lv_if_ne (tgt := 45) hx hb d_N_run_32 rfl (fun h32 => ?_) (fun h32 => ?_)
      · have hq := hq.trans (if_neg h32)
        have hok := ok_neg h32 hok
        exact B_N_run_45_21 _ _ _ _ hok (lv_sub hl [2] rfl) S hq
      · have hq := hq.trans (if_pos h32)
        have hok := ok_pos h32 hok
        refine lv_aload_n hx hb d_N_run_35 rfl (lv_at hl 0 rfl) ?_
        obtain ⟨g5, hok⟩ := hok
        refine callVV X S hl (c_N_step _ g5) v_N_121 0 0 ⟨rfl, rfl⟩ (rk_dec (by decide)) rfl rfl (Nat.le_of_ble_eq_true rfl) d_N_run_36 (fun σ1 H locs e1 S => ?_)
        have hq := hq.trans (ap1_eq e1)
        have hok := ok_ap1 e1 hok
        refine lv_iinc (k := 2) (v := (22 : Int32)) hx hb d_N_run_39 hl rfl (by first | rfl | decide) (by decide) rfl (fun ls hl => ?_)
        refine lv_goto (tgt := 23) hx hb d_N_run_42 rfl ?_
        exact B_N_run_23_22 _ _ _ _ _ hok (lv_sub hl [1, 2, 0] rfl) S hq
  have B_N_run_23_20 : ∀ (v1 : Int32) (σ : nS) (H : Heap) (locs : List Loc) (ls : Array Slot), (ox_N_run_23_20 v1 σ) → lv_has ls 3 [(0, .ref (a 0)), (1, .int v1), (2, .int (20 : Int32))] → St D (wC cI cZ a) A s σ H locs → F = x_N_run_23_20 v1 σ → W p l e ({ frames := 6, cells := 1, slots := 6, locals := 176 } : Room) s m args below meth c H locs 0 0 Q (F0 m 23 ls []) := by
    intro v1 σ H locs ls hok hl S hq
    refine lv_iload_n hx hb d_N_run_23 rfl (lv_at hl 2 rfl) ?_
    refine lv_iload_n hx hb d_N_run_24 rfl (lv_at hl 1 rfl) ?_
    refine lv_icmp_ge (tgt := 45) hx hb d_N_run_25 rfl (fun h25 => ?_) (fun h25 => ?_)
    · have hq := hq.trans (if_pos h25)
      have hok := ok_pos h25 hok
      exact B_N_run_45_20 _ _ _ _ hok (lv_sub hl [2] rfl) S hq
    · have hq := hq.trans (if_neg h25)
      have hok := ok_neg h25 hok
      refine lv_aload_n hx hb d_N_run_28 rfl (lv_at hl 0 rfl) ?_
      refine g_N_118 hx hb hts hown hK S.1 d_N_run_29 ?_
      refine lv_if_ne (tgt := 45) hx hb d_N_run_32 rfl (fun h32 => ?_) (fun h32 => ?_)
      · have hq := hq.trans (if_neg h32)
        have hok := ok_neg h32 hok
        exact B_N_run_45_20 _ _ _ _ hok (lv_sub hl [2] rfl) S hq
      · have hq := hq.trans (if_pos h32)
        have hok := ok_pos h32 hok
        refine lv_aload_n hx hb d_N_run_35 rfl (lv_at hl 0 rfl) ?_
        obtain ⟨g6, hok⟩ := hok
        refine callVV X S hl (c_N_step _ g6) v_N_121 0 0 ⟨rfl, rfl⟩ (rk_dec (by decide)) rfl rfl (Nat.le_of_ble_eq_true rfl) d_N_run_36 (fun σ1 H locs e1 S => ?_)
        have hq := hq.trans (ap1_eq e1)
        have hok := ok_ap1 e1 hok
        refine lv_iinc (k := 2) (v := (21 : Int32)) hx hb d_N_run_39 hl rfl (by first | rfl | decide) (by decide) rfl (fun ls hl => ?_)
        refine lv_goto (tgt := 23) hx hb d_N_run_42 rfl ?_
        exact B_N_run_23_21 _ _ _ _ _ hok (lv_sub hl [1, 2, 0] rfl) S hq
  have B_N_run_23_19 : ∀ (v1 : Int32) (σ : nS) (H : Heap) (locs : List Loc) (ls : Array Slot), (ox_N_run_23_19 v1 σ) → lv_has ls 3 [(0, .ref (a 0)), (1, .int v1), (2, .int (19 : Int32))] → St D (wC cI cZ a) A s σ H locs → F = x_N_run_23_19 v1 σ → W p l e ({ frames := 6, cells := 1, slots := 6, locals := 176 } : Room) s m args below meth c H locs 0 0 Q (F0 m 23 ls []) := by
    intro v1 σ H locs ls hok hl S hq
    refine lv_iload_n hx hb d_N_run_23 rfl (lv_at hl 2 rfl) ?_
    refine lv_iload_n hx hb d_N_run_24 rfl (lv_at hl 1 rfl) ?_
    refine lv_icmp_ge (tgt := 45) hx hb d_N_run_25 rfl (fun h25 => ?_) (fun h25 => ?_)
    · have hq := hq.trans (if_pos h25)
      have hok := ok_pos h25 hok
      exact B_N_run_45_19 _ _ _ _ hok (lv_sub hl [2] rfl) S hq
    · have hq := hq.trans (if_neg h25)
      have hok := ok_neg h25 hok
      refine lv_aload_n hx hb d_N_run_28 rfl (lv_at hl 0 rfl) ?_
      refine g_N_118 hx hb hts hown hK S.1 d_N_run_29 ?_
      refine lv_if_ne (tgt := 45) hx hb d_N_run_32 rfl (fun h32 => ?_) (fun h32 => ?_)
      · have hq := hq.trans (if_neg h32)
        have hok := ok_neg h32 hok
        exact B_N_run_45_19 _ _ _ _ hok (lv_sub hl [2] rfl) S hq
      · have hq := hq.trans (if_pos h32)
        have hok := ok_pos h32 hok
        refine lv_aload_n hx hb d_N_run_35 rfl (lv_at hl 0 rfl) ?_
        obtain ⟨g7, hok⟩ := hok
        refine callVV X S hl (c_N_step _ g7) v_N_121 0 0 ⟨rfl, rfl⟩ (rk_dec (by decide)) rfl rfl (Nat.le_of_ble_eq_true rfl) d_N_run_36 (fun σ1 H locs e1 S => ?_)
        have hq := hq.trans (ap1_eq e1)
        have hok := ok_ap1 e1 hok
        refine lv_iinc (k := 2) (v := (20 : Int32)) hx hb d_N_run_39 hl rfl (by first | rfl | decide) (by decide) rfl (fun ls hl => ?_)
        refine lv_goto (tgt := 23) hx hb d_N_run_42 rfl ?_
        exact B_N_run_23_20 _ _ _ _ _ hok (lv_sub hl [1, 2, 0] rfl) S hq
  have B_N_run_23_18 : ∀ (v1 : Int32) (σ : nS) (H : Heap) (locs : List Loc) (ls : Array Slot), (ox_N_run_23_18 v1 σ) → lv_has ls 3 [(0, .ref (a 0)), (1, .int v1), (2, .int (18 : Int32))] → St D (wC cI cZ a) A s σ H locs → F = x_N_run_23_18 v1 σ → W p l e ({ frames := 6, cells := 1, slots := 6, locals := 176 } : Room) s m args below meth c H locs 0 0 Q (F0 m 23 ls []) := by
    intro v1 σ H locs ls hok hl S hq
    refine lv_iload_n hx hb d_N_run_23 rfl (lv_at hl 2 rfl) ?_
    refine lv_iload_n hx hb d_N_run_24 rfl (lv_at hl 1 rfl) ?_
    refine lv_icmp_ge (tgt := 45) hx hb d_N_run_25 rfl (fun h25 => ?_) (fun h25 => ?_)
    · have hq := hq.trans (if_pos h25)
      have hok := ok_pos h25 hok
      exact B_N_run_45_18 _ _ _ _ hok (lv_sub hl [2] rfl) S hq
    · have hq := hq.trans (if_neg h25)
      have hok := ok_neg h25 hok
      refine lv_aload_n hx hb d_N_run_28 rfl (lv_at hl 0 rfl) ?_
      refine g_N_118 hx hb hts hown hK S.1 d_N_run_29 ?_
      refine lv_if_ne (tgt := 45) hx hb d_N_run_32 rfl (fun h32 => ?_) (fun h32 => ?_)
      · have hq := hq.trans (if_neg h32)
        have hok := ok_neg h32 hok
        exact B_N_run_45_18 _ _ _ _ hok (lv_sub hl [2] rfl) S hq
      · have hq := hq.trans (if_pos h32)
        have hok := ok_pos h32 hok
        refine lv_aload_n hx hb d_N_run_35 rfl (lv_at hl 0 rfl) ?_
        obtain ⟨g8, hok⟩ := hok
        refine callVV X S hl (c_N_step _ g8) v_N_121 0 0 ⟨rfl, rfl⟩ (rk_dec (by decide)) rfl rfl (Nat.le_of_ble_eq_true rfl) d_N_run_36 (fun σ1 H locs e1 S => ?_)
        have hq := hq.trans (ap1_eq e1)
        have hok := ok_ap1 e1 hok
        refine lv_iinc (k := 2) (v := (19 : Int32)) hx hb d_N_run_39 hl rfl (by first | rfl | decide) (by decide) rfl (fun ls hl => ?_)
        refine lv_goto (tgt := 23) hx hb d_N_run_42 rfl ?_
        exact B_N_run_23_19 _ _ _ _ _ hok (lv_sub hl [1, 2, 0] rfl) S hq
  have B_N_run_23_17 : ∀ (v1 : Int32) (σ : nS) (H : Heap) (locs : List Loc) (ls : Array Slot), (ox_N_run_23_17 v1 σ) → lv_has ls 3 [(0, .ref (a 0)), (1, .int v1), (2, .int (17 : Int32))] → St D (wC cI cZ a) A s σ H locs → F = x_N_run_23_17 v1 σ → W p l e ({ frames := 6, cells := 1, slots := 6, locals := 176 } : Room) s m args below meth c H locs 0 0 Q (F0 m 23 ls []) := by
    intro v1 σ H locs ls hok hl S hq
    refine lv_iload_n hx hb d_N_run_23 rfl (lv_at hl 2 rfl) ?_
    refine lv_iload_n hx hb d_N_run_24 rfl (lv_at hl 1 rfl) ?_
    refine lv_icmp_ge (tgt := 45) hx hb d_N_run_25 rfl (fun h25 => ?_) (fun h25 => ?_)
    · have hq := hq.trans (if_pos h25)
      have hok := ok_pos h25 hok
      exact B_N_run_45_17 _ _ _ _ hok (lv_sub hl [2] rfl) S hq
    · have hq := hq.trans (if_neg h25)
      have hok := ok_neg h25 hok
      refine lv_aload_n hx hb d_N_run_28 rfl (lv_at hl 0 rfl) ?_
      refine g_N_118 hx hb hts hown hK S.1 d_N_run_29 ?_
      refine lv_if_ne (tgt := 45) hx hb d_N_run_32 rfl (fun h32 => ?_) (fun h32 => ?_)
      · have hq := hq.trans (if_neg h32)
        have hok := ok_neg h32 hok
        exact B_N_run_45_17 _ _ _ _ hok (lv_sub hl [2] rfl) S hq
      · have hq := hq.trans (if_pos h32)
        have hok := ok_pos h32 hok
        refine lv_aload_n hx hb d_N_run_35 rfl (lv_at hl 0 rfl) ?_
        obtain ⟨g9, hok⟩ := hok
        refine callVV X S hl (c_N_step _ g9) v_N_121 0 0 ⟨rfl, rfl⟩ (rk_dec (by decide)) rfl rfl (Nat.le_of_ble_eq_true rfl) d_N_run_36 (fun σ1 H locs e1 S => ?_)
        have hq := hq.trans (ap1_eq e1)
        have hok := ok_ap1 e1 hok
        refine lv_iinc (k := 2) (v := (18 : Int32)) hx hb d_N_run_39 hl rfl (by first | rfl | decide) (by decide) rfl (fun ls hl => ?_)
        refine lv_goto (tgt := 23) hx hb d_N_run_42 rfl ?_
        exact B_N_run_23_18 _ _ _ _ _ hok (lv_sub hl [1, 2, 0] rfl) S hq
  have B_N_run_23_16 : ∀ (v1 : Int32) (σ : nS) (H : Heap) (locs : List Loc) (ls : Array Slot), (ox_N_run_23_16 v1 σ) → lv_has ls 3 [(0, .ref (a 0)), (1, .int v1), (2, .int (16 : Int32))] → St D (wC cI cZ a) A s σ H locs → F = x_N_run_23_16 v1 σ → W p l e ({ frames := 6, cells := 1, slots := 6, locals := 176 } : Room) s m args below meth c H locs 0 0 Q (F0 m 23 ls []) := by
    intro v1 σ H locs ls hok hl S hq
    refine lv_iload_n hx hb d_N_run_23 rfl (lv_at hl 2 rfl) ?_
    refine lv_iload_n hx hb d_N_run_24 rfl (lv_at hl 1 rfl) ?_
    refine lv_icmp_ge (tgt := 45) hx hb d_N_run_25 rfl (fun h25 => ?_) (fun h25 => ?_)
    · have hq := hq.trans (if_pos h25)
      have hok := ok_pos h25 hok
      exact B_N_run_45_16 _ _ _ _ hok (lv_sub hl [2] rfl) S hq
    · have hq := hq.trans (if_neg h25)
      have hok := ok_neg h25 hok
      refine lv_aload_n hx hb d_N_run_28 rfl (lv_at hl 0 rfl) ?_
      refine g_N_118 hx hb hts hown hK S.1 d_N_run_29 ?_
      refine lv_if_ne (tgt := 45) hx hb d_N_run_32 rfl (fun h32 => ?_) (fun h32 => ?_)
      · have hq := hq.trans (if_neg h32)
        have hok := ok_neg h32 hok
        exact B_N_run_45_16 _ _ _ _ hok (lv_sub hl [2] rfl) S hq
      · have hq := hq.trans (if_pos h32)
        have hok := ok_pos h32 hok
        refine lv_aload_n hx hb d_N_run_35 rfl (lv_at hl 0 rfl) ?_
        obtain ⟨g10, hok⟩ := hok
        refine callVV X S hl (c_N_step _ g10) v_N_121 0 0 ⟨rfl, rfl⟩ (rk_dec (by decide)) rfl rfl (Nat.le_of_ble_eq_true rfl) d_N_run_36 (fun σ1 H locs e1 S => ?_)
        have hq := hq.trans (ap1_eq e1)
        have hok := ok_ap1 e1 hok
        refine lv_iinc (k := 2) (v := (17 : Int32)) hx hb d_N_run_39 hl rfl (by first | rfl | decide) (by decide) rfl (fun ls hl => ?_)
        refine lv_goto (tgt := 23) hx hb d_N_run_42 rfl ?_
        exact B_N_run_23_17 _ _ _ _ _ hok (lv_sub hl [1, 2, 0] rfl) S hq
  have B_N_run_23_15 : ∀ (v1 : Int32) (σ : nS) (H : Heap) (locs : List Loc) (ls : Array Slot), (ox_N_run_23_15 v1 σ) → lv_has ls 3 [(0, .ref (a 0)), (1, .int v1), (2, .int (15 : Int32))] → St D (wC cI cZ a) A s σ H locs → F = x_N_run_23_15 v1 σ → W p l e ({ frames := 6, cells := 1, slots := 6, locals := 176 } : Room) s m args below meth c H locs 0 0 Q (F0 m 23 ls []) := by
    intro v1 σ H locs ls hok hl S hq
    refine lv_iload_n hx hb d_N_run_23 rfl (lv_at hl 2 rfl) ?_
    refine lv_iload_n hx hb d_N_run_24 rfl (lv_at hl 1 rfl) ?_
    refine lv_icmp_ge (tgt := 45) hx hb d_N_run_25 rfl (fun h25 => ?_) (fun h25 => ?_)
    · have hq := hq.trans (if_pos h25)
      have hok := ok_pos h25 hok
      exact B_N_run_45_15 _ _ _ _ hok (lv_sub hl [2] rfl) S hq
    · have hq := hq.trans (if_neg h25)
      have hok := ok_neg h25 hok
      refine lv_aload_n hx hb d_N_run_28 rfl (lv_at hl 0 rfl) ?_
      refine g_N_118 hx hb hts hown hK S.1 d_N_run_29 ?_
      refine lv_if_ne (tgt := 45) hx hb d_N_run_32 rfl (fun h32 => ?_) (fun h32 => ?_)
      · have hq := hq.trans (if_neg h32)
        have hok := ok_neg h32 hok
        exact B_N_run_45_15 _ _ _ _ hok (lv_sub hl [2] rfl) S hq
      · have hq := hq.trans (if_pos h32)
        have hok := ok_pos h32 hok
        refine lv_aload_n hx hb d_N_run_35 rfl (lv_at hl 0 rfl) ?_
        obtain ⟨g11, hok⟩ := hok
        refine callVV X S hl (c_N_step _ g11) v_N_121 0 0 ⟨rfl, rfl⟩ (rk_dec (by decide)) rfl rfl (Nat.le_of_ble_eq_true rfl) d_N_run_36 (fun σ1 H locs e1 S => ?_)
        have hq := hq.trans (ap1_eq e1)
        have hok := ok_ap1 e1 hok
        refine lv_iinc (k := 2) (v := (16 : Int32)) hx hb d_N_run_39 hl rfl (by first | rfl | decide) (by decide) rfl (fun ls hl => ?_)
        refine lv_goto (tgt := 23) hx hb d_N_run_42 rfl ?_
        exact B_N_run_23_16 _ _ _ _ _ hok (lv_sub hl [1, 2, 0] rfl) S hq
  have B_N_run_23_14 : ∀ (v1 : Int32) (σ : nS) (H : Heap) (locs : List Loc) (ls : Array Slot), (ox_N_run_23_14 v1 σ) → lv_has ls 3 [(0, .ref (a 0)), (1, .int v1), (2, .int (14 : Int32))] → St D (wC cI cZ a) A s σ H locs → F = x_N_run_23_14 v1 σ → W p l e ({ frames := 6, cells := 1, slots := 6, locals := 176 } : Room) s m args below meth c H locs 0 0 Q (F0 m 23 ls []) := by
    intro v1 σ H locs ls hok hl S hq
    refine lv_iload_n hx hb d_N_run_23 rfl (lv_at hl 2 rfl) ?_
    refine lv_iload_n hx hb d_N_run_24 rfl (lv_at hl 1 rfl) ?_
    refine lv_icmp_ge (tgt := 45) hx hb d_N_run_25 rfl (fun h25 => ?_) (fun h25 => ?_)
    · have hq := hq.trans (if_pos h25)
      have hok := ok_pos h25 hok
      exact B_N_run_45_14 _ _ _ _ hok (lv_sub hl [2] rfl) S hq
    · have hq := hq.trans (if_neg h25)
      have hok := ok_neg h25 hok
      refine lv_aload_n hx hb d_N_run_28 rfl (lv_at hl 0 rfl) ?_
      refine g_N_118 hx hb hts hown hK S.1 d_N_run_29 ?_
      refine lv_if_ne (tgt := 45) hx hb d_N_run_32 rfl (fun h32 => ?_) (fun h32 => ?_)
      · have hq := hq.trans (if_neg h32)
        have hok := ok_neg h32 hok
        exact B_N_run_45_14 _ _ _ _ hok (lv_sub hl [2] rfl) S hq
      · have hq := hq.trans (if_pos h32)
        have hok := ok_pos h32 hok
        refine lv_aload_n hx hb d_N_run_35 rfl (lv_at hl 0 rfl) ?_
        obtain ⟨g12, hok⟩ := hok
        refine callVV X S hl (c_N_step _ g12) v_N_121 0 0 ⟨rfl, rfl⟩ (rk_dec (by decide)) rfl rfl (Nat.le_of_ble_eq_true rfl) d_N_run_36 (fun σ1 H locs e1 S => ?_)
        have hq := hq.trans (ap1_eq e1)
        have hok := ok_ap1 e1 hok
        refine lv_iinc (k := 2) (v := (15 : Int32)) hx hb d_N_run_39 hl rfl (by first | rfl | decide) (by decide) rfl (fun ls hl => ?_)
        refine lv_goto (tgt := 23) hx hb d_N_run_42 rfl ?_
        exact B_N_run_23_15 _ _ _ _ _ hok (lv_sub hl [1, 2, 0] rfl) S hq
  have B_N_run_23_13 : ∀ (v1 : Int32) (σ : nS) (H : Heap) (locs : List Loc) (ls : Array Slot), (ox_N_run_23_13 v1 σ) → lv_has ls 3 [(0, .ref (a 0)), (1, .int v1), (2, .int (13 : Int32))] → St D (wC cI cZ a) A s σ H locs → F = x_N_run_23_13 v1 σ → W p l e ({ frames := 6, cells := 1, slots := 6, locals := 176 } : Room) s m args below meth c H locs 0 0 Q (F0 m 23 ls []) := by
    intro v1 σ H locs ls hok hl S hq
    refine lv_iload_n hx hb d_N_run_23 rfl (lv_at hl 2 rfl) ?_
    refine lv_iload_n hx hb d_N_run_24 rfl (lv_at hl 1 rfl) ?_
    refine lv_icmp_ge (tgt := 45) hx hb d_N_run_25 rfl (fun h25 => ?_) (fun h25 => ?_)
    · have hq := hq.trans (if_pos h25)
      have hok := ok_pos h25 hok
      exact B_N_run_45_13 _ _ _ _ hok (lv_sub hl [2] rfl) S hq
    · have hq := hq.trans (if_neg h25)
      have hok := ok_neg h25 hok
      refine lv_aload_n hx hb d_N_run_28 rfl (lv_at hl 0 rfl) ?_
      refine g_N_118 hx hb hts hown hK S.1 d_N_run_29 ?_
      refine lv_if_ne (tgt := 45) hx hb d_N_run_32 rfl (fun h32 => ?_) (fun h32 => ?_)
      · have hq := hq.trans (if_neg h32)
        have hok := ok_neg h32 hok
        exact B_N_run_45_13 _ _ _ _ hok (lv_sub hl [2] rfl) S hq
      · have hq := hq.trans (if_pos h32)
        have hok := ok_pos h32 hok
        refine lv_aload_n hx hb d_N_run_35 rfl (lv_at hl 0 rfl) ?_
        obtain ⟨g13, hok⟩ := hok
        refine callVV X S hl (c_N_step _ g13) v_N_121 0 0 ⟨rfl, rfl⟩ (rk_dec (by decide)) rfl rfl (Nat.le_of_ble_eq_true rfl) d_N_run_36 (fun σ1 H locs e1 S => ?_)
        have hq := hq.trans (ap1_eq e1)
        have hok := ok_ap1 e1 hok
        refine lv_iinc (k := 2) (v := (14 : Int32)) hx hb d_N_run_39 hl rfl (by first | rfl | decide) (by decide) rfl (fun ls hl => ?_)
        refine lv_goto (tgt := 23) hx hb d_N_run_42 rfl ?_
        exact B_N_run_23_14 _ _ _ _ _ hok (lv_sub hl [1, 2, 0] rfl) S hq
  have B_N_run_23_12 : ∀ (v1 : Int32) (σ : nS) (H : Heap) (locs : List Loc) (ls : Array Slot), (ox_N_run_23_12 v1 σ) → lv_has ls 3 [(0, .ref (a 0)), (1, .int v1), (2, .int (12 : Int32))] → St D (wC cI cZ a) A s σ H locs → F = x_N_run_23_12 v1 σ → W p l e ({ frames := 6, cells := 1, slots := 6, locals := 176 } : Room) s m args below meth c H locs 0 0 Q (F0 m 23 ls []) := by
    intro v1 σ H locs ls hok hl S hq
    refine lv_iload_n hx hb d_N_run_23 rfl (lv_at hl 2 rfl) ?_
    refine lv_iload_n hx hb d_N_run_24 rfl (lv_at hl 1 rfl) ?_
    refine lv_icmp_ge (tgt := 45) hx hb d_N_run_25 rfl (fun h25 => ?_) (fun h25 => ?_)
    · have hq := hq.trans (if_pos h25)
      have hok := ok_pos h25 hok
      exact B_N_run_45_12 _ _ _ _ hok (lv_sub hl [2] rfl) S hq
    · have hq := hq.trans (if_neg h25)
      have hok := ok_neg h25 hok
      refine lv_aload_n hx hb d_N_run_28 rfl (lv_at hl 0 rfl) ?_
      refine g_N_118 hx hb hts hown hK S.1 d_N_run_29 ?_
      refine lv_if_ne (tgt := 45) hx hb d_N_run_32 rfl (fun h32 => ?_) (fun h32 => ?_)
      · have hq := hq.trans (if_neg h32)
        have hok := ok_neg h32 hok
        exact B_N_run_45_12 _ _ _ _ hok (lv_sub hl [2] rfl) S hq
      · have hq := hq.trans (if_pos h32)
        have hok := ok_pos h32 hok
        refine lv_aload_n hx hb d_N_run_35 rfl (lv_at hl 0 rfl) ?_
        obtain ⟨g14, hok⟩ := hok
        refine callVV X S hl (c_N_step _ g14) v_N_121 0 0 ⟨rfl, rfl⟩ (rk_dec (by decide)) rfl rfl (Nat.le_of_ble_eq_true rfl) d_N_run_36 (fun σ1 H locs e1 S => ?_)
        have hq := hq.trans (ap1_eq e1)
        have hok := ok_ap1 e1 hok
        refine lv_iinc (k := 2) (v := (13 : Int32)) hx hb d_N_run_39 hl rfl (by first | rfl | decide) (by decide) rfl (fun ls hl => ?_)
        refine lv_goto (tgt := 23) hx hb d_N_run_42 rfl ?_
        exact B_N_run_23_13 _ _ _ _ _ hok (lv_sub hl [1, 2, 0] rfl) S hq
  have B_N_run_23_11 : ∀ (v1 : Int32) (σ : nS) (H : Heap) (locs : List Loc) (ls : Array Slot), (ox_N_run_23_11 v1 σ) → lv_has ls 3 [(0, .ref (a 0)), (1, .int v1), (2, .int (11 : Int32))] → St D (wC cI cZ a) A s σ H locs → F = x_N_run_23_11 v1 σ → W p l e ({ frames := 6, cells := 1, slots := 6, locals := 176 } : Room) s m args below meth c H locs 0 0 Q (F0 m 23 ls []) := by
    intro v1 σ H locs ls hok hl S hq
    refine lv_iload_n hx hb d_N_run_23 rfl (lv_at hl 2 rfl) ?_
    refine lv_iload_n hx hb d_N_run_24 rfl (lv_at hl 1 rfl) ?_
    refine lv_icmp_ge (tgt := 45) hx hb d_N_run_25 rfl (fun h25 => ?_) (fun h25 => ?_)
    · have hq := hq.trans (if_pos h25)
      have hok := ok_pos h25 hok
      exact B_N_run_45_11 _ _ _ _ hok (lv_sub hl [2] rfl) S hq
    · have hq := hq.trans (if_neg h25)
      have hok := ok_neg h25 hok
      refine lv_aload_n hx hb d_N_run_28 rfl (lv_at hl 0 rfl) ?_
      refine g_N_118 hx hb hts hown hK S.1 d_N_run_29 ?_
      refine lv_if_ne (tgt := 45) hx hb d_N_run_32 rfl (fun h32 => ?_) (fun h32 => ?_)
      · have hq := hq.trans (if_neg h32)
        have hok := ok_neg h32 hok
        exact B_N_run_45_11 _ _ _ _ hok (lv_sub hl [2] rfl) S hq
      · have hq := hq.trans (if_pos h32)
        have hok := ok_pos h32 hok
        refine lv_aload_n hx hb d_N_run_35 rfl (lv_at hl 0 rfl) ?_
        obtain ⟨g15, hok⟩ := hok
        refine callVV X S hl (c_N_step _ g15) v_N_121 0 0 ⟨rfl, rfl⟩ (rk_dec (by decide)) rfl rfl (Nat.le_of_ble_eq_true rfl) d_N_run_36 (fun σ1 H locs e1 S => ?_)
        have hq := hq.trans (ap1_eq e1)
        have hok := ok_ap1 e1 hok
        refine lv_iinc (k := 2) (v := (12 : Int32)) hx hb d_N_run_39 hl rfl (by first | rfl | decide) (by decide) rfl (fun ls hl => ?_)
        refine lv_goto (tgt := 23) hx hb d_N_run_42 rfl ?_
        exact B_N_run_23_12 _ _ _ _ _ hok (lv_sub hl [1, 2, 0] rfl) S hq
  have B_N_run_23_10 : ∀ (v1 : Int32) (σ : nS) (H : Heap) (locs : List Loc) (ls : Array Slot), (ox_N_run_23_10 v1 σ) → lv_has ls 3 [(0, .ref (a 0)), (1, .int v1), (2, .int (10 : Int32))] → St D (wC cI cZ a) A s σ H locs → F = x_N_run_23_10 v1 σ → W p l e ({ frames := 6, cells := 1, slots := 6, locals := 176 } : Room) s m args below meth c H locs 0 0 Q (F0 m 23 ls []) := by
    intro v1 σ H locs ls hok hl S hq
    refine lv_iload_n hx hb d_N_run_23 rfl (lv_at hl 2 rfl) ?_
    refine lv_iload_n hx hb d_N_run_24 rfl (lv_at hl 1 rfl) ?_
    refine lv_icmp_ge (tgt := 45) hx hb d_N_run_25 rfl (fun h25 => ?_) (fun h25 => ?_)
    · have hq := hq.trans (if_pos h25)
      have hok := ok_pos h25 hok
      exact B_N_run_45_10 _ _ _ _ hok (lv_sub hl [2] rfl) S hq
    · have hq := hq.trans (if_neg h25)
      have hok := ok_neg h25 hok
      refine lv_aload_n hx hb d_N_run_28 rfl (lv_at hl 0 rfl) ?_
      refine g_N_118 hx hb hts hown hK S.1 d_N_run_29 ?_
      refine lv_if_ne (tgt := 45) hx hb d_N_run_32 rfl (fun h32 => ?_) (fun h32 => ?_)
      · have hq := hq.trans (if_neg h32)
        have hok := ok_neg h32 hok
        exact B_N_run_45_10 _ _ _ _ hok (lv_sub hl [2] rfl) S hq
      · have hq := hq.trans (if_pos h32)
        have hok := ok_pos h32 hok
        refine lv_aload_n hx hb d_N_run_35 rfl (lv_at hl 0 rfl) ?_
        obtain ⟨g16, hok⟩ := hok
        refine callVV X S hl (c_N_step _ g16) v_N_121 0 0 ⟨rfl, rfl⟩ (rk_dec (by decide)) rfl rfl (Nat.le_of_ble_eq_true rfl) d_N_run_36 (fun σ1 H locs e1 S => ?_)
        have hq := hq.trans (ap1_eq e1)
        have hok := ok_ap1 e1 hok
        refine lv_iinc (k := 2) (v := (11 : Int32)) hx hb d_N_run_39 hl rfl (by first | rfl | decide) (by decide) rfl (fun ls hl => ?_)
        refine lv_goto (tgt := 23) hx hb d_N_run_42 rfl ?_
        exact B_N_run_23_11 _ _ _ _ _ hok (lv_sub hl [1, 2, 0] rfl) S hq
  have B_N_run_23_9 : ∀ (v1 : Int32) (σ : nS) (H : Heap) (locs : List Loc) (ls : Array Slot), (ox_N_run_23_9 v1 σ) → lv_has ls 3 [(0, .ref (a 0)), (1, .int v1), (2, .int (9 : Int32))] → St D (wC cI cZ a) A s σ H locs → F = x_N_run_23_9 v1 σ → W p l e ({ frames := 6, cells := 1, slots := 6, locals := 176 } : Room) s m args below meth c H locs 0 0 Q (F0 m 23 ls []) := by
    intro v1 σ H locs ls hok hl S hq
    refine lv_iload_n hx hb d_N_run_23 rfl (lv_at hl 2 rfl) ?_
    refine lv_iload_n hx hb d_N_run_24 rfl (lv_at hl 1 rfl) ?_
    refine lv_icmp_ge (tgt := 45) hx hb d_N_run_25 rfl (fun h25 => ?_) (fun h25 => ?_)
    · have hq := hq.trans (if_pos h25)
      have hok := ok_pos h25 hok
      exact B_N_run_45_9 _ _ _ _ hok (lv_sub hl [2] rfl) S hq
    · have hq := hq.trans (if_neg h25)
      have hok := ok_neg h25 hok
      refine lv_aload_n hx hb d_N_run_28 rfl (lv_at hl 0 rfl) ?_
      refine g_N_118 hx hb hts hown hK S.1 d_N_run_29 ?_
      refine lv_if_ne (tgt := 45) hx hb d_N_run_32 rfl (fun h32 => ?_) (fun h32 => ?_)
      · have hq := hq.trans (if_neg h32)
        have hok := ok_neg h32 hok
        exact B_N_run_45_9 _ _ _ _ hok (lv_sub hl [2] rfl) S hq
      · have hq := hq.trans (if_pos h32)
        have hok := ok_pos h32 hok
        refine lv_aload_n hx hb d_N_run_35 rfl (lv_at hl 0 rfl) ?_
        obtain ⟨g17, hok⟩ := hok
        refine callVV X S hl (c_N_step _ g17) v_N_121 0 0 ⟨rfl, rfl⟩ (rk_dec (by decide)) rfl rfl (Nat.le_of_ble_eq_true rfl) d_N_run_36 (fun σ1 H locs e1 S => ?_)
        have hq := hq.trans (ap1_eq e1)
        have hok := ok_ap1 e1 hok
        refine lv_iinc (k := 2) (v := (10 : Int32)) hx hb d_N_run_39 hl rfl (by first | rfl | decide) (by decide) rfl (fun ls hl => ?_)
        refine lv_goto (tgt := 23) hx hb d_N_run_42 rfl ?_
        exact B_N_run_23_10 _ _ _ _ _ hok (lv_sub hl [1, 2, 0] rfl) S hq
  have B_N_run_23_8 : ∀ (v1 : Int32) (σ : nS) (H : Heap) (locs : List Loc) (ls : Array Slot), (ox_N_run_23_8 v1 σ) → lv_has ls 3 [(0, .ref (a 0)), (1, .int v1), (2, .int (8 : Int32))] → St D (wC cI cZ a) A s σ H locs → F = x_N_run_23_8 v1 σ → W p l e ({ frames := 6, cells := 1, slots := 6, locals := 176 } : Room) s m args below meth c H locs 0 0 Q (F0 m 23 ls []) := by
    intro v1 σ H locs ls hok hl S hq
    refine lv_iload_n hx hb d_N_run_23 rfl (lv_at hl 2 rfl) ?_
    refine lv_iload_n hx hb d_N_run_24 rfl (lv_at hl 1 rfl) ?_
    refine lv_icmp_ge (tgt := 45) hx hb d_N_run_25 rfl (fun h25 => ?_) (fun h25 => ?_)
    · have hq := hq.trans (if_pos h25)
      have hok := ok_pos h25 hok
      exact B_N_run_45_8 _ _ _ _ hok (lv_sub hl [2] rfl) S hq
    · have hq := hq.trans (if_neg h25)
      have hok := ok_neg h25 hok
      refine lv_aload_n hx hb d_N_run_28 rfl (lv_at hl 0 rfl) ?_
      refine g_N_118 hx hb hts hown hK S.1 d_N_run_29 ?_
      refine lv_if_ne (tgt := 45) hx hb d_N_run_32 rfl (fun h32 => ?_) (fun h32 => ?_)
      · have hq := hq.trans (if_neg h32)
        have hok := ok_neg h32 hok
        exact B_N_run_45_8 _ _ _ _ hok (lv_sub hl [2] rfl) S hq
      · have hq := hq.trans (if_pos h32)
        have hok := ok_pos h32 hok
        refine lv_aload_n hx hb d_N_run_35 rfl (lv_at hl 0 rfl) ?_
        obtain ⟨g18, hok⟩ := hok
        refine callVV X S hl (c_N_step _ g18) v_N_121 0 0 ⟨rfl, rfl⟩ (rk_dec (by decide)) rfl rfl (Nat.le_of_ble_eq_true rfl) d_N_run_36 (fun σ1 H locs e1 S => ?_)
        have hq := hq.trans (ap1_eq e1)
        have hok := ok_ap1 e1 hok
        refine lv_iinc (k := 2) (v := (9 : Int32)) hx hb d_N_run_39 hl rfl (by first | rfl | decide) (by decide) rfl (fun ls hl => ?_)
        refine lv_goto (tgt := 23) hx hb d_N_run_42 rfl ?_
        exact B_N_run_23_9 _ _ _ _ _ hok (lv_sub hl [1, 2, 0] rfl) S hq
  have B_N_run_23_7 : ∀ (v1 : Int32) (σ : nS) (H : Heap) (locs : List Loc) (ls : Array Slot), (ox_N_run_23_7 v1 σ) → lv_has ls 3 [(0, .ref (a 0)), (1, .int v1), (2, .int (7 : Int32))] → St D (wC cI cZ a) A s σ H locs → F = x_N_run_23_7 v1 σ → W p l e ({ frames := 6, cells := 1, slots := 6, locals := 176 } : Room) s m args below meth c H locs 0 0 Q (F0 m 23 ls []) := by
    intro v1 σ H locs ls hok hl S hq
    refine lv_iload_n hx hb d_N_run_23 rfl (lv_at hl 2 rfl) ?_
    refine lv_iload_n hx hb d_N_run_24 rfl (lv_at hl 1 rfl) ?_
    refine lv_icmp_ge (tgt := 45) hx hb d_N_run_25 rfl (fun h25 => ?_) (fun h25 => ?_)
    · have hq := hq.trans (if_pos h25)
      have hok := ok_pos h25 hok
      exact B_N_run_45_7 _ _ _ _ hok (lv_sub hl [2] rfl) S hq
    · have hq := hq.trans (if_neg h25)
      have hok := ok_neg h25 hok
      refine lv_aload_n hx hb d_N_run_28 rfl (lv_at hl 0 rfl) ?_
      refine g_N_118 hx hb hts hown hK S.1 d_N_run_29 ?_
      refine lv_if_ne (tgt := 45) hx hb d_N_run_32 rfl (fun h32 => ?_) (fun h32 => ?_)
      · have hq := hq.trans (if_neg h32)
        have hok := ok_neg h32 hok
        exact B_N_run_45_7 _ _ _ _ hok (lv_sub hl [2] rfl) S hq
      · have hq := hq.trans (if_pos h32)
        have hok := ok_pos h32 hok
        refine lv_aload_n hx hb d_N_run_35 rfl (lv_at hl 0 rfl) ?_
        obtain ⟨g19, hok⟩ := hok
        refine callVV X S hl (c_N_step _ g19) v_N_121 0 0 ⟨rfl, rfl⟩ (rk_dec (by decide)) rfl rfl (Nat.le_of_ble_eq_true rfl) d_N_run_36 (fun σ1 H locs e1 S => ?_)
        have hq := hq.trans (ap1_eq e1)
        have hok := ok_ap1 e1 hok
        refine lv_iinc (k := 2) (v := (8 : Int32)) hx hb d_N_run_39 hl rfl (by first | rfl | decide) (by decide) rfl (fun ls hl => ?_)
        refine lv_goto (tgt := 23) hx hb d_N_run_42 rfl ?_
        exact B_N_run_23_8 _ _ _ _ _ hok (lv_sub hl [1, 2, 0] rfl) S hq
  have B_N_run_23_6 : ∀ (v1 : Int32) (σ : nS) (H : Heap) (locs : List Loc) (ls : Array Slot), (ox_N_run_23_6 v1 σ) → lv_has ls 3 [(0, .ref (a 0)), (1, .int v1), (2, .int (6 : Int32))] → St D (wC cI cZ a) A s σ H locs → F = x_N_run_23_6 v1 σ → W p l e ({ frames := 6, cells := 1, slots := 6, locals := 176 } : Room) s m args below meth c H locs 0 0 Q (F0 m 23 ls []) := by
    intro v1 σ H locs ls hok hl S hq
    refine lv_iload_n hx hb d_N_run_23 rfl (lv_at hl 2 rfl) ?_
    refine lv_iload_n hx hb d_N_run_24 rfl (lv_at hl 1 rfl) ?_
    refine lv_icmp_ge (tgt := 45) hx hb d_N_run_25 rfl (fun h25 => ?_) (fun h25 => ?_)
    · have hq := hq.trans (if_pos h25)
      have hok := ok_pos h25 hok
      exact B_N_run_45_6 _ _ _ _ hok (lv_sub hl [2] rfl) S hq
    · have hq := hq.trans (if_neg h25)
      have hok := ok_neg h25 hok
      refine lv_aload_n hx hb d_N_run_28 rfl (lv_at hl 0 rfl) ?_
      refine g_N_118 hx hb hts hown hK S.1 d_N_run_29 ?_
      refine lv_if_ne (tgt := 45) hx hb d_N_run_32 rfl (fun h32 => ?_) (fun h32 => ?_)
      · have hq := hq.trans (if_neg h32)
        have hok := ok_neg h32 hok
        exact B_N_run_45_6 _ _ _ _ hok (lv_sub hl [2] rfl) S hq
      · have hq := hq.trans (if_pos h32)
        have hok := ok_pos h32 hok
        refine lv_aload_n hx hb d_N_run_35 rfl (lv_at hl 0 rfl) ?_
        obtain ⟨g20, hok⟩ := hok
        refine callVV X S hl (c_N_step _ g20) v_N_121 0 0 ⟨rfl, rfl⟩ (rk_dec (by decide)) rfl rfl (Nat.le_of_ble_eq_true rfl) d_N_run_36 (fun σ1 H locs e1 S => ?_)
        have hq := hq.trans (ap1_eq e1)
        have hok := ok_ap1 e1 hok
        refine lv_iinc (k := 2) (v := (7 : Int32)) hx hb d_N_run_39 hl rfl (by first | rfl | decide) (by decide) rfl (fun ls hl => ?_)
        refine lv_goto (tgt := 23) hx hb d_N_run_42 rfl ?_
        exact B_N_run_23_7 _ _ _ _ _ hok (lv_sub hl [1, 2, 0] rfl) S hq
  have B_N_run_23_5 : ∀ (v1 : Int32) (σ : nS) (H : Heap) (locs : List Loc) (ls : Array Slot), (ox_N_run_23_5 v1 σ) → lv_has ls 3 [(0, .ref (a 0)), (1, .int v1), (2, .int (5 : Int32))] → St D (wC cI cZ a) A s σ H locs → F = x_N_run_23_5 v1 σ → W p l e ({ frames := 6, cells := 1, slots := 6, locals := 176 } : Room) s m args below meth c H locs 0 0 Q (F0 m 23 ls []) := by
    intro v1 σ H locs ls hok hl S hq
    refine lv_iload_n hx hb d_N_run_23 rfl (lv_at hl 2 rfl) ?_
    refine lv_iload_n hx hb d_N_run_24 rfl (lv_at hl 1 rfl) ?_
    refine lv_icmp_ge (tgt := 45) hx hb d_N_run_25 rfl (fun h25 => ?_) (fun h25 => ?_)
    · have hq := hq.trans (if_pos h25)
      have hok := ok_pos h25 hok
      exact B_N_run_45_5 _ _ _ _ hok (lv_sub hl [2] rfl) S hq
    · have hq := hq.trans (if_neg h25)
      have hok := ok_neg h25 hok
      refine lv_aload_n hx hb d_N_run_28 rfl (lv_at hl 0 rfl) ?_
      refine g_N_118 hx hb hts hown hK S.1 d_N_run_29 ?_
      refine lv_if_ne (tgt := 45) hx hb d_N_run_32 rfl (fun h32 => ?_) (fun h32 => ?_)
      · have hq := hq.trans (if_neg h32)
        have hok := ok_neg h32 hok
        exact B_N_run_45_5 _ _ _ _ hok (lv_sub hl [2] rfl) S hq
      · have hq := hq.trans (if_pos h32)
        have hok := ok_pos h32 hok
        refine lv_aload_n hx hb d_N_run_35 rfl (lv_at hl 0 rfl) ?_
        obtain ⟨g21, hok⟩ := hok
        refine callVV X S hl (c_N_step _ g21) v_N_121 0 0 ⟨rfl, rfl⟩ (rk_dec (by decide)) rfl rfl (Nat.le_of_ble_eq_true rfl) d_N_run_36 (fun σ1 H locs e1 S => ?_)
        have hq := hq.trans (ap1_eq e1)
        have hok := ok_ap1 e1 hok
        refine lv_iinc (k := 2) (v := (6 : Int32)) hx hb d_N_run_39 hl rfl (by first | rfl | decide) (by decide) rfl (fun ls hl => ?_)
        refine lv_goto (tgt := 23) hx hb d_N_run_42 rfl ?_
        exact B_N_run_23_6 _ _ _ _ _ hok (lv_sub hl [1, 2, 0] rfl) S hq
  have B_N_run_23_4 : ∀ (v1 : Int32) (σ : nS) (H : Heap) (locs : List Loc) (ls : Array Slot), (ox_N_run_23_4 v1 σ) → lv_has ls 3 [(0, .ref (a 0)), (1, .int v1), (2, .int (4 : Int32))] → St D (wC cI cZ a) A s σ H locs → F = x_N_run_23_4 v1 σ → W p l e ({ frames := 6, cells := 1, slots := 6, locals := 176 } : Room) s m args below meth c H locs 0 0 Q (F0 m 23 ls []) := by
    intro v1 σ H locs ls hok hl S hq
    refine lv_iload_n hx hb d_N_run_23 rfl (lv_at hl 2 rfl) ?_
    refine lv_iload_n hx hb d_N_run_24 rfl (lv_at hl 1 rfl) ?_
    refine lv_icmp_ge (tgt := 45) hx hb d_N_run_25 rfl (fun h25 => ?_) (fun h25 => ?_)
    · have hq := hq.trans (if_pos h25)
      have hok := ok_pos h25 hok
      exact B_N_run_45_4 _ _ _ _ hok (lv_sub hl [2] rfl) S hq
    · have hq := hq.trans (if_neg h25)
      have hok := ok_neg h25 hok
      refine lv_aload_n hx hb d_N_run_28 rfl (lv_at hl 0 rfl) ?_
      refine g_N_118 hx hb hts hown hK S.1 d_N_run_29 ?_
      refine lv_if_ne (tgt := 45) hx hb d_N_run_32 rfl (fun h32 => ?_) (fun h32 => ?_)
      · have hq := hq.trans (if_neg h32)
        have hok := ok_neg h32 hok
        exact B_N_run_45_4 _ _ _ _ hok (lv_sub hl [2] rfl) S hq
      · have hq := hq.trans (if_pos h32)
        have hok := ok_pos h32 hok
        refine lv_aload_n hx hb d_N_run_35 rfl (lv_at hl 0 rfl) ?_
        obtain ⟨g22, hok⟩ := hok
        refine callVV X S hl (c_N_step _ g22) v_N_121 0 0 ⟨rfl, rfl⟩ (rk_dec (by decide)) rfl rfl (Nat.le_of_ble_eq_true rfl) d_N_run_36 (fun σ1 H locs e1 S => ?_)
        have hq := hq.trans (ap1_eq e1)
        have hok := ok_ap1 e1 hok
        refine lv_iinc (k := 2) (v := (5 : Int32)) hx hb d_N_run_39 hl rfl (by first | rfl | decide) (by decide) rfl (fun ls hl => ?_)
        refine lv_goto (tgt := 23) hx hb d_N_run_42 rfl ?_
        exact B_N_run_23_5 _ _ _ _ _ hok (lv_sub hl [1, 2, 0] rfl) S hq
  have B_N_run_23_3 : ∀ (v1 : Int32) (σ : nS) (H : Heap) (locs : List Loc) (ls : Array Slot), (ox_N_run_23_3 v1 σ) → lv_has ls 3 [(0, .ref (a 0)), (1, .int v1), (2, .int (3 : Int32))] → St D (wC cI cZ a) A s σ H locs → F = x_N_run_23_3 v1 σ → W p l e ({ frames := 6, cells := 1, slots := 6, locals := 176 } : Room) s m args below meth c H locs 0 0 Q (F0 m 23 ls []) := by
    intro v1 σ H locs ls hok hl S hq
    refine lv_iload_n hx hb d_N_run_23 rfl (lv_at hl 2 rfl) ?_
    refine lv_iload_n hx hb d_N_run_24 rfl (lv_at hl 1 rfl) ?_
    refine lv_icmp_ge (tgt := 45) hx hb d_N_run_25 rfl (fun h25 => ?_) (fun h25 => ?_)
    · have hq := hq.trans (if_pos h25)
      have hok := ok_pos h25 hok
      exact B_N_run_45_3 _ _ _ _ hok (lv_sub hl [2] rfl) S hq
    · have hq := hq.trans (if_neg h25)
      have hok := ok_neg h25 hok
      refine lv_aload_n hx hb d_N_run_28 rfl (lv_at hl 0 rfl) ?_
      refine g_N_118 hx hb hts hown hK S.1 d_N_run_29 ?_
      refine lv_if_ne (tgt := 45) hx hb d_N_run_32 rfl (fun h32 => ?_) (fun h32 => ?_)
      · have hq := hq.trans (if_neg h32)
        have hok := ok_neg h32 hok
        exact B_N_run_45_3 _ _ _ _ hok (lv_sub hl [2] rfl) S hq
      · have hq := hq.trans (if_pos h32)
        have hok := ok_pos h32 hok
        refine lv_aload_n hx hb d_N_run_35 rfl (lv_at hl 0 rfl) ?_
        obtain ⟨g23, hok⟩ := hok
        refine callVV X S hl (c_N_step _ g23) v_N_121 0 0 ⟨rfl, rfl⟩ (rk_dec (by decide)) rfl rfl (Nat.le_of_ble_eq_true rfl) d_N_run_36 (fun σ1 H locs e1 S => ?_)
        have hq := hq.trans (ap1_eq e1)
        have hok := ok_ap1 e1 hok
        refine lv_iinc (k := 2) (v := (4 : Int32)) hx hb d_N_run_39 hl rfl (by first | rfl | decide) (by decide) rfl (fun ls hl => ?_)
        refine lv_goto (tgt := 23) hx hb d_N_run_42 rfl ?_
        exact B_N_run_23_4 _ _ _ _ _ hok (lv_sub hl [1, 2, 0] rfl) S hq
  have B_N_run_23_2 : ∀ (v1 : Int32) (σ : nS) (H : Heap) (locs : List Loc) (ls : Array Slot), (ox_N_run_23_2 v1 σ) → lv_has ls 3 [(0, .ref (a 0)), (1, .int v1), (2, .int (2 : Int32))] → St D (wC cI cZ a) A s σ H locs → F = x_N_run_23_2 v1 σ → W p l e ({ frames := 6, cells := 1, slots := 6, locals := 176 } : Room) s m args below meth c H locs 0 0 Q (F0 m 23 ls []) := by
    intro v1 σ H locs ls hok hl S hq
    refine lv_iload_n hx hb d_N_run_23 rfl (lv_at hl 2 rfl) ?_
    refine lv_iload_n hx hb d_N_run_24 rfl (lv_at hl 1 rfl) ?_
    refine lv_icmp_ge (tgt := 45) hx hb d_N_run_25 rfl (fun h25 => ?_) (fun h25 => ?_)
    · have hq := hq.trans (if_pos h25)
      have hok := ok_pos h25 hok
      exact B_N_run_45_2 _ _ _ _ hok (lv_sub hl [2] rfl) S hq
    · have hq := hq.trans (if_neg h25)
      have hok := ok_neg h25 hok
      refine lv_aload_n hx hb d_N_run_28 rfl (lv_at hl 0 rfl) ?_
      refine g_N_118 hx hb hts hown hK S.1 d_N_run_29 ?_
      refine lv_if_ne (tgt := 45) hx hb d_N_run_32 rfl (fun h32 => ?_) (fun h32 => ?_)
      · have hq := hq.trans (if_neg h32)
        have hok := ok_neg h32 hok
        exact B_N_run_45_2 _ _ _ _ hok (lv_sub hl [2] rfl) S hq
      · have hq := hq.trans (if_pos h32)
        have hok := ok_pos h32 hok
        refine lv_aload_n hx hb d_N_run_35 rfl (lv_at hl 0 rfl) ?_
        obtain ⟨g24, hok⟩ := hok
        refine callVV X S hl (c_N_step _ g24) v_N_121 0 0 ⟨rfl, rfl⟩ (rk_dec (by decide)) rfl rfl (Nat.le_of_ble_eq_true rfl) d_N_run_36 (fun σ1 H locs e1 S => ?_)
        have hq := hq.trans (ap1_eq e1)
        have hok := ok_ap1 e1 hok
        refine lv_iinc (k := 2) (v := (3 : Int32)) hx hb d_N_run_39 hl rfl (by first | rfl | decide) (by decide) rfl (fun ls hl => ?_)
        refine lv_goto (tgt := 23) hx hb d_N_run_42 rfl ?_
        exact B_N_run_23_3 _ _ _ _ _ hok (lv_sub hl [1, 2, 0] rfl) S hq
  have B_N_run_23_1 : ∀ (v1 : Int32) (σ : nS) (H : Heap) (locs : List Loc) (ls : Array Slot), (ox_N_run_23_1 v1 σ) → lv_has ls 3 [(0, .ref (a 0)), (1, .int v1), (2, .int (1 : Int32))] → St D (wC cI cZ a) A s σ H locs → F = x_N_run_23_1 v1 σ → W p l e ({ frames := 6, cells := 1, slots := 6, locals := 176 } : Room) s m args below meth c H locs 0 0 Q (F0 m 23 ls []) := by
    intro v1 σ H locs ls hok hl S hq
    refine lv_iload_n hx hb d_N_run_23 rfl (lv_at hl 2 rfl) ?_
    refine lv_iload_n hx hb d_N_run_24 rfl (lv_at hl 1 rfl) ?_
    refine lv_icmp_ge (tgt := 45) hx hb d_N_run_25 rfl (fun h25 => ?_) (fun h25 => ?_)
    · have hq := hq.trans (if_pos h25)
      have hok := ok_pos h25 hok
      exact B_N_run_45_1 _ _ _ _ hok (lv_sub hl [2] rfl) S hq
    · have hq := hq.trans (if_neg h25)
      have hok := ok_neg h25 hok
      refine lv_aload_n hx hb d_N_run_28 rfl (lv_at hl 0 rfl) ?_
      refine g_N_118 hx hb hts hown hK S.1 d_N_run_29 ?_
      refine lv_if_ne (tgt := 45) hx hb d_N_run_32 rfl (fun h32 => ?_) (fun h32 => ?_)
      · have hq := hq.trans (if_neg h32)
        have hok := ok_neg h32 hok
        exact B_N_run_45_1 _ _ _ _ hok (lv_sub hl [2] rfl) S hq
      · have hq := hq.trans (if_pos h32)
        have hok := ok_pos h32 hok
        refine lv_aload_n hx hb d_N_run_35 rfl (lv_at hl 0 rfl) ?_
        obtain ⟨g25, hok⟩ := hok
        refine callVV X S hl (c_N_step _ g25) v_N_121 0 0 ⟨rfl, rfl⟩ (rk_dec (by decide)) rfl rfl (Nat.le_of_ble_eq_true rfl) d_N_run_36 (fun σ1 H locs e1 S => ?_)
        have hq := hq.trans (ap1_eq e1)
        have hok := ok_ap1 e1 hok
        refine lv_iinc (k := 2) (v := (2 : Int32)) hx hb d_N_run_39 hl rfl (by first | rfl | decide) (by decide) rfl (fun ls hl => ?_)
        refine lv_goto (tgt := 23) hx hb d_N_run_42 rfl ?_
        exact B_N_run_23_2 _ _ _ _ _ hok (lv_sub hl [1, 2, 0] rfl) S hq
  have B_N_run_23_0 : ∀ (v1 : Int32) (σ : nS) (H : Heap) (locs : List Loc) (ls : Array Slot), (ox_N_run_23_0 v1 σ) → lv_has ls 3 [(0, .ref (a 0)), (1, .int v1), (2, .int (0 : Int32))] → St D (wC cI cZ a) A s σ H locs → F = x_N_run_23_0 v1 σ → W p l e ({ frames := 6, cells := 1, slots := 6, locals := 176 } : Room) s m args below meth c H locs 0 0 Q (F0 m 23 ls []) := by
    intro v1 σ H locs ls hok hl S hq
    refine lv_iload_n hx hb d_N_run_23 rfl (lv_at hl 2 rfl) ?_
    refine lv_iload_n hx hb d_N_run_24 rfl (lv_at hl 1 rfl) ?_
    refine lv_icmp_ge (tgt := 45) hx hb d_N_run_25 rfl (fun h25 => ?_) (fun h25 => ?_)
    · have hq := hq.trans (if_pos h25)
      have hok := ok_pos h25 hok
      exact B_N_run_45_0 _ _ _ _ hok (lv_sub hl [2] rfl) S hq
    · have hq := hq.trans (if_neg h25)
      have hok := ok_neg h25 hok
      refine lv_aload_n hx hb d_N_run_28 rfl (lv_at hl 0 rfl) ?_
      refine g_N_118 hx hb hts hown hK S.1 d_N_run_29 ?_
      refine lv_if_ne (tgt := 45) hx hb d_N_run_32 rfl (fun h32 => ?_) (fun h32 => ?_)
      · have hq := hq.trans (if_neg h32)
        have hok := ok_neg h32 hok
        exact B_N_run_45_0 _ _ _ _ hok (lv_sub hl [2] rfl) S hq
      · have hq := hq.trans (if_pos h32)
        have hok := ok_pos h32 hok
        refine lv_aload_n hx hb d_N_run_35 rfl (lv_at hl 0 rfl) ?_
        obtain ⟨g26, hok⟩ := hok
        refine callVV X S hl (c_N_step _ g26) v_N_121 0 0 ⟨rfl, rfl⟩ (rk_dec (by decide)) rfl rfl (Nat.le_of_ble_eq_true rfl) d_N_run_36 (fun σ1 H locs e1 S => ?_)
        have hq := hq.trans (ap1_eq e1)
        have hok := ok_ap1 e1 hok
        refine lv_iinc (k := 2) (v := (1 : Int32)) hx hb d_N_run_39 hl rfl (by first | rfl | decide) (by decide) rfl (fun ls hl => ?_)
        refine lv_goto (tgt := 23) hx hb d_N_run_42 rfl ?_
        exact B_N_run_23_1 _ _ _ _ _ hok (lv_sub hl [1, 2, 0] rfl) S hq
  refine lv_iload_n hx hb d_N_run_0 rfl (lv_at hl 1 rfl) ?_
  refine lv_iconst (v := 1) hx hb d_N_run_1 (by decide) ?_
  refine lv_icmp_lt (tgt := 11) hx hb d_N_run_2 rfl (fun h2 => ?_) (fun h2 => ?_)
  · have hq := hq.trans (if_pos h2)
    have hok := ok_pos h2 hok
    exact B_N_run_11 _ _ _ _ hok (lv_sub hl [] rfl) S hq
  · have hq := hq.trans (if_neg h2)
    have hok := ok_neg h2 hok
    refine lv_iload_n hx hb d_N_run_5 rfl (lv_at hl 1 rfl) ?_
    refine lv_bipush (v := 25) hx hb d_N_run_6 (by decide) ?_
    refine lv_icmp_le (tgt := 21) hx hb d_N_run_8 rfl (fun h8 => ?_) (fun h8 => ?_)
    · have hq := hq.trans (if_pos h8)
      have hok := ok_pos h8 hok
      refine lv_iconst (v := 0) hx hb d_N_run_21 (by decide) ?_
      refine lv_istore_n hx hb d_N_run_22 rfl hl (by decide) rfl (fun ls hl => ?_)
      exact B_N_run_23_0 _ _ _ _ _ hok (lv_sub hl [1, 2, 0] rfl) S hq
    · have hq := hq.trans (if_neg h8)
      have hok := ok_neg h8 hok
      exact B_N_run_11 _ _ _ _ hok (lv_sub hl [] rfl) S hq
set_option maxHeartbeats 4000000 in
set_option maxRecDepth 100000 in
theorem c_N_state (hst : l.stackTraces = false) (v1 : Int32) (σ : nS) (hok : ox_N_state v1 σ) : CxI l D cI cZ (wC cI cZ a) t y_N_state b_N_state 2 { frames := 6, cells := 1, slots := 6, locals := 108 } [.ref (a 0), .int v1] σ (x_N_state v1 σ) := by
  generalize hF : x_N_state v1 σ = F
  refine mexI hst rfl (Nat.le_of_ble_eq_true rfl) (by decide) (by decide) (by decide) (by decide) (fun p e s m args below meth c A Q ls X S hl ret thr => ?_)
  have hq := hF.symm
  obtain ⟨hx, hb, hml, hown, hts, hK, hA, hE, hlk, hEo⟩ := id X
  have hl : lv_has ls 2 [(0, .ref (a 0)), (1, .int v1)] := hl
  have B_N_state_121 : ∀ (σ : nS) (H : Heap) (locs : List Loc) (ls : Array Slot), (ox_N_state_121 σ) → lv_has ls 2 [] → St D (wC cI cZ a) A s σ H locs → F = x_N_state_121 σ → W p l e ({ frames := 6, cells := 1, slots := 6, locals := 108 } : Room) s m args below meth c H locs 0 0 Q (F0 m 121 ls []) := by
    intro σ H locs ls hok hl S hq
    exact thr _ _ _ _ _ 149 "no such state" S hq hl.1 (by decide) d_N_state_121 d_N_state_124 d_N_state_125 d_N_state_127 d_N_state_130
  refine lv_iload_n hx hb d_N_state_0 rfl (lv_at hl 1 rfl) ?_
  by_cases h1_0 : v1 = (0 : Int32)
  · have hq := hq.trans (if_pos h1_0)
    have hok := ok_pos h1_0 hok
    refine lv_tableIn (off := 51) (tgt := 52) hx hb d_N_state_1 (by rw [h1_0]; decide) (by rw [h1_0]; decide) (by rw [h1_0]; rfl) rfl ?_
    refine lv_aload_n hx hb d_N_state_52 rfl (lv_at hl 0 rfl) ?_
    refine g_N_40 hx hb hts hown hK S.1 d_N_state_53 ?_
    refine callVIp X S hl (c_Fl_packed _) v_N_124 15 4 ⟨rfl, rfl⟩ (rk_dec (by decide)) rfl rfl (Nat.le_of_ble_eq_true rfl) d_N_state_56 (fun H locs S => ?_)
    exact ret _ _ _ _ _ _ S hq d_N_state_59
  · have hq := hq.trans (if_neg h1_0)
    have hok := ok_neg h1_0 hok
    by_cases h1_1 : v1 = (1 : Int32)
    · have hq := hq.trans (if_pos h1_1)
      have hok := ok_pos h1_1 hok
      refine lv_tableIn (off := 59) (tgt := 60) hx hb d_N_state_1 (by rw [h1_1]; decide) (by rw [h1_1]; decide) (by rw [h1_1]; rfl) rfl ?_
      refine lv_aload_n hx hb d_N_state_60 rfl (lv_at hl 0 rfl) ?_
      refine g_N_128 hx hb hts hown hK S.1 d_N_state_61 ?_
      exact ret _ _ _ _ _ _ S hq d_N_state_64
    · have hq := hq.trans (if_neg h1_1)
      have hok := ok_neg h1_1 hok
      by_cases h1_2 : v1 = (2 : Int32)
      · have hq := hq.trans (if_pos h1_2)
        have hok := ok_pos h1_2 hok
        refine lv_tableIn (off := 64) (tgt := 65) hx hb d_N_state_1 (by rw [h1_2]; decide) (by rw [h1_2]; decide) (by rw [h1_2]; rfl) rfl ?_
        refine lv_aload_n hx hb d_N_state_65 rfl (lv_at hl 0 rfl) ?_
        refine g_N_33 hx hb hts hown hK S.1 d_N_state_66 ?_
        refine callVIp X S hl (c_Ex_level _) v_N_131 10 3 ⟨rfl, rfl⟩ (rk_dec (by decide)) rfl rfl (Nat.le_of_ble_eq_true rfl) d_N_state_69 (fun H locs S => ?_)
        exact ret _ _ _ _ _ _ S hq d_N_state_72
      · have hq := hq.trans (if_neg h1_2)
        have hok := ok_neg h1_2 hok
        by_cases h1_3 : v1 = (3 : Int32)
        · have hq := hq.trans (if_pos h1_3)
          have hok := ok_pos h1_3 hok
          refine lv_tableIn (off := 72) (tgt := 73) hx hb d_N_state_1 (by rw [h1_3]; decide) (by rw [h1_3]; decide) (by rw [h1_3]; rfl) rfl ?_
          refine lv_aload_n hx hb d_N_state_73 rfl (lv_at hl 0 rfl) ?_
          refine g_N_33 hx hb hts hown hK S.1 d_N_state_74 ?_
          refine callVIp X S hl (c_Ex_due _) v_N_134 10 3 ⟨rfl, rfl⟩ (rk_dec (by decide)) rfl rfl (Nat.le_of_ble_eq_true rfl) d_N_state_77 (fun H locs S => ?_)
          exact ret _ _ _ _ _ _ S hq d_N_state_80
        · have hq := hq.trans (if_neg h1_3)
          have hok := ok_neg h1_3 hok
          by_cases h1_4 : v1 = (4 : Int32)
          · have hq := hq.trans (if_pos h1_4)
            have hok := ok_pos h1_4 hok
            refine lv_tableIn (off := 80) (tgt := 81) hx hb d_N_state_1 (by rw [h1_4]; decide) (by rw [h1_4]; decide) (by rw [h1_4]; rfl) rfl ?_
            refine lv_aload_n hx hb d_N_state_81 rfl (lv_at hl 0 rfl) ?_
            refine g_N_137 hx hb hts hown hK S.1 d_N_state_82 ?_
            exact ret _ _ _ _ _ _ S hq d_N_state_85
          · have hq := hq.trans (if_neg h1_4)
            have hok := ok_neg h1_4 hok
            by_cases h1_5 : v1 = (5 : Int32)
            · have hq := hq.trans (if_pos h1_5)
              have hok := ok_pos h1_5 hok
              refine lv_tableIn (off := 85) (tgt := 86) hx hb d_N_state_1 (by rw [h1_5]; decide) (by rw [h1_5]; decide) (by rw [h1_5]; rfl) rfl ?_
              refine lv_aload_n hx hb d_N_state_86 rfl (lv_at hl 0 rfl) ?_
              refine g_N_140 hx hb hts hown hK S.1 d_N_state_87 ?_
              exact ret _ _ _ _ _ _ S hq d_N_state_90
            · have hq := hq.trans (if_neg h1_5)
              have hok := ok_neg h1_5 hok
              by_cases h1_6 : v1 = (6 : Int32)
              · have hq := hq.trans (if_pos h1_6)
                have hok := ok_pos h1_6 hok
                refine lv_tableIn (off := 90) (tgt := 91) hx hb d_N_state_1 (by rw [h1_6]; decide) (by rw [h1_6]; decide) (by rw [h1_6]; rfl) rfl ?_
                refine lv_aload_n hx hb d_N_state_91 rfl (lv_at hl 0 rfl) ?_
                refine g_N_118 hx hb hts hown hK S.1 d_N_state_92 ?_
                exact ret _ _ _ _ _ _ S hq d_N_state_95
              · have hq := hq.trans (if_neg h1_6)
                have hok := ok_neg h1_6 hok
                by_cases h1_7 : v1 = (7 : Int32)
                · have hq := hq.trans (if_pos h1_7)
                  have hok := ok_pos h1_7 hok
                  refine lv_tableIn (off := 95) (tgt := 96) hx hb d_N_state_1 (by rw [h1_7]; decide) (by rw [h1_7]; decide) (by rw [h1_7]; rfl) rfl ?_
                  refine lv_aload_n hx hb d_N_state_96 rfl (lv_at hl 0 rfl) ?_
                  refine g_N_143 hx hb hts hown hK S.1 d_N_state_97 ?_
                  exact ret _ _ _ _ _ _ S hq d_N_state_100
                · have hq := hq.trans (if_neg h1_7)
                  have hok := ok_neg h1_7 hok
                  by_cases h1_8 : v1 = (8 : Int32)
                  · have hq := hq.trans (if_pos h1_8)
                    have hok := ok_pos h1_8 hok
                    refine lv_tableIn (off := 100) (tgt := 101) hx hb d_N_state_1 (by rw [h1_8]; decide) (by rw [h1_8]; decide) (by rw [h1_8]; rfl) rfl ?_
                    refine lv_aload_n hx hb d_N_state_101 rfl (lv_at hl 0 rfl) ?_
                    refine g_N_47 hx hb hts hown hK S.1 d_N_state_102 ?_
                    refine g_N_146 hx hb hts hown hK S.1 d_N_state_105 ?_
                    exact ret _ _ _ _ _ _ S hq d_N_state_108
                  · have hq := hq.trans (if_neg h1_8)
                    have hok := ok_neg h1_8 hok
                    have h1_0T := lv_neT (a := 0) h1_0 (by decide)
                    have h1_1T := lv_neT (a := 1) h1_1 (by decide)
                    have h1_2T := lv_neT (a := 2) h1_2 (by decide)
                    have h1_3T := lv_neT (a := 3) h1_3 (by decide)
                    have h1_4T := lv_neT (a := 4) h1_4 (by decide)
                    have h1_5T := lv_neT (a := 5) h1_5 (by decide)
                    have h1_6T := lv_neT (a := 6) h1_6 (by decide)
                    have h1_7T := lv_neT (a := 7) h1_7 (by decide)
                    have h1_8T := lv_neT (a := 8) h1_8 (by decide)
                    refine lv_tableOut (tgt := 109) hx hb d_N_state_1 (by omega) rfl ?_
                    refine lv_iload_n hx hb d_N_state_109 rfl (lv_at hl 1 rfl) ?_
                    refine lv_bipush (v := 18) hx hb d_N_state_110 (by decide) ?_
                    refine lv_icmp_lt (tgt := 121) hx hb d_N_state_112 rfl (fun h112 => ?_) (fun h112 => ?_)
                    · have hq := hq.trans (if_pos h112)
                      have hok := ok_pos h112 hok
                      exact B_N_state_121 _ _ _ _ hok (lv_sub hl [] rfl) S hq
                    · have hq := hq.trans (if_neg h112)
                      have hok := ok_neg h112 hok
                      refine lv_iload_n hx hb d_N_state_115 rfl (lv_at hl 1 rfl) ?_
                      refine lv_bipush (v := 31) hx hb d_N_state_116 (by decide) ?_
                      refine lv_icmp_le (tgt := 131) hx hb d_N_state_118 rfl (fun h118 => ?_) (fun h118 => ?_)
                      · have hq := hq.trans (if_pos h118)
                        have hok := ok_pos h118 hok
                        refine lv_aload_n hx hb d_N_state_131 rfl (lv_at hl 0 rfl) ?_
                        refine g_N_33 hx hb hts hown hK S.1 d_N_state_132 ?_
                        refine lv_iload_n hx hb d_N_state_135 rfl (lv_at hl 1 rfl) ?_
                        refine lv_bipush (v := 16) hx hb d_N_state_136 (by decide) ?_
                        refine lv_isub hx hb d_N_state_138 ?_
                        obtain ⟨g1, hok⟩ := hok
                        refine callVIp X S hl (c_Ex_packed (v1 - (16 : Int32)) _ g1) v_N_151 10 3 ⟨rfl, rfl⟩ (rk_dec (by decide)) rfl rfl (Nat.le_of_ble_eq_true rfl) d_N_state_139 (fun H locs S => ?_)
                        exact ret _ _ _ _ _ _ S hq d_N_state_142
                      · have hq := hq.trans (if_neg h118)
                        have hok := ok_neg h118 hok
                        exact B_N_state_121 _ _ _ _ hok (lv_sub hl [] rfl) S hq
end CT
