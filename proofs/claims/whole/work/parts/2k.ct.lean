section CT
variable {l : Launch} {D : va_G} {cI cZ : ClassId} {a : Nat → Nat} {t : Nat}
set_option maxHeartbeats 4000000 in
set_option maxRecDepth 100000 in
theorem c_Mo_conditional (v1 : Int32) (σ : nS) : CtI l D cI cZ (wM cI cZ a) exM y_Mo_conditional b_Mo_conditional 4 { frames := 2, cells := 0, slots := 0, locals := 43 } [.ref (a 0), .int v1] σ (s_Mo_conditional v1 σ) := by
  generalize hF : s_Mo_conditional v1 σ = F
  refine metI exM_ok (by decide) (Nat.le_of_ble_eq_true rfl) (fun p e s m args below meth c A Q ls X S hl ret => ?_)
  have hq := hF.symm
  obtain ⟨hx, hb, hml, hown, hts, hK, hA, hE, hlk, hEo⟩ := id X
  have hl : lv_has ls 4 [(0, .ref (a 0)), (1, .int v1)] := hl
  have B_Mo_conditional_112 : ∀ (k2 : Int32) (k3 : Int32) (σ : nS) (H : Heap) (locs : List Loc) (ls : Array Slot), lv_has ls 4 [] → St D (wM cI cZ a) A s σ H locs → F = s_Mo_conditional_112 k2 k3 σ → W p l e ({ frames := 2, cells := 0, slots := 0, locals := 43 } : Room) s m args below meth c H locs 0 0 Q (F0 m 112 ls [.int k3, .int k2, .int (15 : Int32), .ref (a 2)]) := by
    intro k2 k3 σ H locs ls hl S hq
    refine lv_iadd hx hb d_Mo_conditional_112 ?_
    refine st_M_2 (k := 15) hx hb hK S (vin_dec (by decide)) (by decide) d_Mo_conditional_113 (fun H locs S => ?_)
    refine lv_iconst (v := 0) hx hb d_Mo_conditional_114 (by decide) ?_
    exact ret _ _ _ _ _ _ S hq d_Mo_conditional_115
  have B_Mo_conditional_86 : ∀ (v2 : Int32) (k0 : Int32) (σ : nS) (H : Heap) (locs : List Loc) (ls : Array Slot), lv_has ls 4 [(0, .ref (a 0)), (2, .int v2)] → St D (wM cI cZ a) A s σ H locs → F = s_Mo_conditional_86 v2 k0 σ → W p l e ({ frames := 2, cells := 0, slots := 0, locals := 43 } : Room) s m args below meth c H locs 0 0 Q (F0 m 86 ls [.int k0]) := by
    intro v2 k0 σ H locs ls hl S hq
    refine lv_istore_n hx hb d_Mo_conditional_86 rfl hl (by decide) rfl (fun ls hl => ?_)
    refine lv_aload_n hx hb d_Mo_conditional_87 rfl (lv_at hl 1 rfl) ?_
    refine g_Mo_13 hx hb hts hown hK S.1 d_Mo_conditional_88 ?_
    refine lv_bipush (v := 15) hx hb d_Mo_conditional_91 (by decide) ?_
    refine lv_dup2_11 hx hb d_Mo_conditional_93 rfl rfl ?_
    refine ld_M_2 (k := 15) hx hb hK S.1 (vin_dec (by decide)) (by decide) d_Mo_conditional_94 ?_
    refine lv_aload_n hx hb d_Mo_conditional_95 rfl (lv_at hl 1 rfl) ?_
    refine lv_iload_n hx hb d_Mo_conditional_96 rfl (lv_at hl 2 rfl) ?_
    refine callVZp X S hl (c_Mo_holds v2 _) v_Mo_157 0 6 ⟨rfl, rfl⟩ (rk_dec (by decide)) rfl rfl (Nat.le_of_ble_eq_true rfl) d_Mo_conditional_97 (fun H locs S => ?_)
    refine r_ifeqZ (tgt := 111) hx hb d_Mo_conditional_100 rfl (fun h100 => ?_) (fun h100 => ?_)
    · have hq := hq.trans (if_neg h100)
      refine lv_iconst (v := 2) hx hb d_Mo_conditional_111 (by decide) ?_
      exact B_Mo_conditional_112 _ _ _ _ _ _ (lv_sub hl [] rfl) S hq
    · have hq := hq.trans (if_pos h100)
      refine lv_iconst (v := 4) hx hb d_Mo_conditional_103 (by decide) ?_
      refine lv_iconst (v := 2) hx hb d_Mo_conditional_104 (by decide) ?_
      refine lv_iload_n hx hb d_Mo_conditional_105 rfl (lv_at hl 0 rfl) ?_
      refine lv_imul hx hb d_Mo_conditional_106 ?_
      refine lv_iadd hx hb d_Mo_conditional_107 ?_
      refine lv_goto (tgt := 112) hx hb d_Mo_conditional_108 rfl ?_
      exact B_Mo_conditional_112 _ _ _ _ _ _ (lv_sub hl [] rfl) S hq
  refine lv_iload_n hx hb d_Mo_conditional_0 rfl (lv_at hl 1 rfl) ?_
  refine lv_bipush (v := 8) hx hb d_Mo_conditional_1 (by decide) ?_
  refine lv_ishr hx hb d_Mo_conditional_3 ?_
  refine lv_bipush (v := 15) hx hb d_Mo_conditional_4 (by decide) ?_
  refine lv_iand hx hb d_Mo_conditional_6 ?_
  refine lv_istore_n hx hb d_Mo_conditional_7 rfl hl (by decide) rfl (fun ls hl => ?_)
  refine lv_iload_n hx hb d_Mo_conditional_8 rfl (lv_at hl 0 rfl) ?_
  refine lv_bipush (v := 14) hx hb d_Mo_conditional_9 (by decide) ?_
  refine lv_icmp_ne (tgt := 17) hx hb d_Mo_conditional_11 rfl (fun h11 => ?_) (fun h11 => ?_)
  · have hq := hq.trans (if_neg h11)
    refine lv_iload_n hx hb d_Mo_conditional_17 rfl (lv_at hl 0 rfl) ?_
    refine lv_bipush (v := 15) hx hb d_Mo_conditional_18 (by decide) ?_
    refine lv_icmp_ne (tgt := 65) hx hb d_Mo_conditional_20 rfl (fun h20 => ?_) (fun h20 => ?_)
    · have hq := hq.trans (if_neg h20)
      refine lv_iload_n hx hb d_Mo_conditional_65 rfl (lv_at hl 2 rfl) ?_
      refine lv_sipush (v := 255) hx hb d_Mo_conditional_66 (by decide) ?_
      refine lv_iand hx hb d_Mo_conditional_69 ?_
      refine lv_istore_n hx hb d_Mo_conditional_70 rfl hl (by decide) rfl (fun ls hl => ?_)
      refine lv_iload_n hx hb d_Mo_conditional_71 rfl (lv_at hl 0 rfl) ?_
      refine lv_bipush (v := 127) hx hb d_Mo_conditional_72 (by decide) ?_
      refine lv_icmp_le (tgt := 85) hx hb d_Mo_conditional_74 rfl (fun h74 => ?_) (fun h74 => ?_)
      · have hq := hq.trans (if_pos h74)
        refine lv_iload_n hx hb d_Mo_conditional_85 rfl (lv_at hl 0 rfl) ?_
        exact B_Mo_conditional_86 _ _ _ _ _ _ (lv_sub hl [2, 1] rfl) S hq
      · have hq := hq.trans (if_neg h74)
        refine lv_iload_n hx hb d_Mo_conditional_77 rfl (lv_at hl 0 rfl) ?_
        refine lv_sipush (v := 256) hx hb d_Mo_conditional_78 (by decide) ?_
        refine lv_isub hx hb d_Mo_conditional_81 ?_
        refine lv_goto (tgt := 86) hx hb d_Mo_conditional_82 rfl ?_
        exact B_Mo_conditional_86 _ _ _ _ _ _ (lv_sub hl [2, 1] rfl) S hq
    · have hq := hq.trans (if_pos h20)
      refine lv_aload_n hx hb d_Mo_conditional_23 rfl (lv_at hl 1 rfl) ?_
      refine lv_aload_n hx hb d_Mo_conditional_24 rfl (lv_at hl 1 rfl) ?_
      refine g_Mo_16 hx hb hts hown hK S.1 d_Mo_conditional_25 ?_
      refine lv_bipush (v := 7) hx hb d_Mo_conditional_28 (by decide) ?_
      refine ld_M_3 (k := 7) hx hb hK S.1 (vin_dec (by decide)) (by decide) d_Mo_conditional_30 ?_
      refine callVIp X S hl (c_Mo_group (σ 4 7) _) v_Mo_56 0 6 ⟨rfl, rfl⟩ (rk_dec (by decide)) rfl rfl (Nat.le_of_ble_eq_true rfl) d_Mo_conditional_31 (fun H locs S => ?_)
      refine lv_aload_n hx hb d_Mo_conditional_34 rfl (lv_at hl 1 rfl) ?_
      refine callVIp X S hl (c_Mo_level _) v_Mo_70 0 6 ⟨rfl, rfl⟩ (rk_dec (by decide)) rfl rfl (Nat.le_of_ble_eq_true rfl) d_Mo_conditional_35 (fun H locs S => ?_)
      refine lv_icmp_lt (tgt := 44) hx hb d_Mo_conditional_38 rfl (fun h38 => ?_) (fun h38 => ?_)
      · have hq := hq.trans (if_pos h38)
        refine lv_aload_n hx hb d_Mo_conditional_44 rfl (lv_at hl 1 rfl) ?_
        refine g_Mo_23 hx hb hts hown hK S.1 d_Mo_conditional_45 ?_
        refine lv_bipush (v := 7) hx hb d_Mo_conditional_48 (by decide) ?_
        refine lv_iconst (v := 1) hx hb d_Mo_conditional_50 (by decide) ?_
        refine st_M_5 (k := 7) (b := true) hx hb hK S (vin_dec (by decide)) (by decide) d_Mo_conditional_51 (fun H locs S => ?_)
        refine lv_aload_n hx hb d_Mo_conditional_52 rfl (lv_at hl 1 rfl) ?_
        refine g_Mo_13 hx hb hts hown hK S.1 d_Mo_conditional_53 ?_
        refine lv_bipush (v := 15) hx hb d_Mo_conditional_56 (by decide) ?_
        refine lv_dup2_11 hx hb d_Mo_conditional_58 rfl rfl ?_
        refine ld_M_2 (k := 15) hx hb hK S.1 (vin_dec (by decide)) (by decide) d_Mo_conditional_59 ?_
        refine lv_iconst (v := 2) hx hb d_Mo_conditional_60 (by decide) ?_
        refine lv_iadd hx hb d_Mo_conditional_61 ?_
        refine st_M_2 (k := 15) hx hb hK S (vin_dec (by decide)) (by decide) d_Mo_conditional_62 (fun H locs S => ?_)
        refine lv_iconst (v := 0) hx hb d_Mo_conditional_63 (by decide) ?_
        exact ret _ _ _ _ _ _ S hq d_Mo_conditional_64
      · have hq := hq.trans (if_neg h38)
        refine lv_bipush (v := 6) hx hb d_Mo_conditional_41 (by decide) ?_
        exact ret _ _ _ _ _ _ S hq d_Mo_conditional_43
  · have hq := hq.trans (if_pos h11)
    refine lv_bipush (v := 6) hx hb d_Mo_conditional_14 (by decide) ?_
    exact ret _ _ _ _ _ _ S hq d_Mo_conditional_16
set_option maxHeartbeats 4000000 in
set_option maxRecDepth 100000 in
theorem c_Mo_special (v1 : Int32) (σ : nS) (hok : o_Mo_special v1 σ) : CtI l D cI cZ (wM cI cZ a) exM y_Mo_special b_Mo_special 2 { frames := 3, cells := 0, slots := 0, locals := 73 } [.ref (a 0), .int v1] σ (s_Mo_special v1 σ) := by
  generalize hF : s_Mo_special v1 σ = F
  refine metI exM_ok (by decide) (Nat.le_of_ble_eq_true rfl) (fun p e s m args below meth c A Q ls X S hl ret => ?_)
  have hq := hF.symm
  obtain ⟨hx, hb, hml, hown, hts, hK, hA, hE, hlk, hEo⟩ := id X
  have hl : lv_has ls 2 [(0, .ref (a 0)), (1, .int v1)] := hl
  have B_Mo_special_152 : ∀ (σ : nS) (H : Heap) (locs : List Loc) (ls : Array Slot), (o_Mo_special_152 σ) → lv_has ls 2 [] → St D (wM cI cZ a) A s σ H locs → F = s_Mo_special_152 σ → W p l e ({ frames := 3, cells := 0, slots := 0, locals := 73 } : Room) s m args below meth c H locs 0 0 Q (F0 m 152 ls []) := by
    intro σ H locs ls hok hl S hq
    refine lv_iconst (v := 0) hx hb d_Mo_special_152 (by decide) ?_
    exact ret _ _ _ _ _ _ S hq d_Mo_special_153
  have B_Mo_special_24 : ∀ (k1 : Bool) (σ : nS) (H : Heap) (locs : List Loc) (ls : Array Slot), (o_Mo_special_24 k1 σ) → lv_has ls 2 [] → St D (wM cI cZ a) A s σ H locs → F = s_Mo_special_24 k1 σ → W p l e ({ frames := 3, cells := 0, slots := 0, locals := 73 } : Room) s m args below meth c H locs 0 0 Q (F0 m 24 ls [.int (bI k1), .ref (a 0)]) := by
    intro k1 σ H locs ls hok hl S hq
    refine p_Mo_63 (b := k1) hx hb hts hown hK S d_Mo_special_24 (fun H locs S => ?_)
    refine lv_goto (tgt := 152) hx hb d_Mo_special_27 rfl ?_
    exact B_Mo_special_152 _ _ _ _ hok (lv_sub hl [] rfl) S hq
  have B_Mo_special_12 : ∀ (v1 : Int32) (σ : nS) (H : Heap) (locs : List Loc) (ls : Array Slot), (o_Mo_special_12 v1 σ) → lv_has ls 2 [(0, .ref (a 0)), (1, .int v1)] → St D (wM cI cZ a) A s σ H locs → F = s_Mo_special_12 v1 σ → W p l e ({ frames := 3, cells := 0, slots := 0, locals := 73 } : Room) s m args below meth c H locs 0 0 Q (F0 m 12 ls []) := by
    intro v1 σ H locs ls hok hl S hq
    refine lv_aload_n hx hb d_Mo_special_12 rfl (lv_at hl 0 rfl) ?_
    refine lv_iload_n hx hb d_Mo_special_13 rfl (lv_at hl 1 rfl) ?_
    refine lv_ldc (v := 46706) hx hb hown (hts _ k_13) d_Mo_special_14 ?_
    refine lv_icmp_ne (tgt := 23) hx hb d_Mo_special_16 rfl (fun h16 => ?_) (fun h16 => ?_)
    · have hq := hq.trans (if_neg h16)
      have hok := ok_neg h16 hok
      refine lv_iconst (v := 0) hx hb d_Mo_special_23 (by decide) ?_
      exact B_Mo_special_24 false _ _ _ _ hok (lv_sub hl [] rfl) S hq
    · have hq := hq.trans (if_pos h16)
      have hok := ok_pos h16 hok
      refine lv_iconst (v := 1) hx hb d_Mo_special_19 (by decide) ?_
      refine lv_goto (tgt := 24) hx hb d_Mo_special_20 rfl ?_
      exact B_Mo_special_24 true _ _ _ _ hok (lv_sub hl [] rfl) S hq
  have B_Mo_special_119 : ∀ (k2 : Int32) (k3 : Int32) (σ : nS) (H : Heap) (locs : List Loc) (ls : Array Slot), (o_Mo_special_119 k2 k3 σ) → lv_has ls 2 [] → St D (wM cI cZ a) A s σ H locs → F = s_Mo_special_119 k2 k3 σ → W p l e ({ frames := 3, cells := 0, slots := 0, locals := 73 } : Room) s m args below meth c H locs 0 0 Q (F0 m 119 ls [.int k3, .int k2, .int (13 : Int32), .ref (a 2)]) := by
    intro k2 k3 σ H locs ls hok hl S hq
    refine lv_iadd hx hb d_Mo_special_119 ?_
    refine st_M_2 (k := 13) hx hb hK S (vin_dec (by decide)) (by decide) d_Mo_special_120 (fun H locs S => ?_)
    refine lv_goto (tgt := 152) hx hb d_Mo_special_121 rfl ?_
    exact B_Mo_special_152 _ _ _ _ hok (lv_sub hl [] rfl) S hq
  have B_Mo_special_71 : ∀ (k1 : Bool) (σ : nS) (H : Heap) (locs : List Loc) (ls : Array Slot), (o_Mo_special_71 k1 σ) → lv_has ls 2 [] → St D (wM cI cZ a) A s σ H locs → F = s_Mo_special_71 k1 σ → W p l e ({ frames := 3, cells := 0, slots := 0, locals := 73 } : Room) s m args below meth c H locs 0 0 Q (F0 m 71 ls [.int (bI k1), .ref (a 0)]) := by
    intro k1 σ H locs ls hok hl S hq
    refine p_Mo_67 (b := k1) hx hb hts hown hK S d_Mo_special_71 (fun H locs S => ?_)
    refine lv_goto (tgt := 152) hx hb d_Mo_special_74 rfl ?_
    exact B_Mo_special_152 _ _ _ _ hok (lv_sub hl [] rfl) S hq
  have B_Mo_special_66 : ∀ (σ : nS) (H : Heap) (locs : List Loc) (ls : Array Slot), (o_Mo_special_66 σ) → lv_has ls 2 [] → St D (wM cI cZ a) A s σ H locs → F = s_Mo_special_66 σ → W p l e ({ frames := 3, cells := 0, slots := 0, locals := 73 } : Room) s m args below meth c H locs 0 0 Q (F0 m 66 ls [.ref (a 0)]) := by
    intro σ H locs ls hok hl S hq
    refine lv_iconst (v := 1) hx hb d_Mo_special_66 (by decide) ?_
    refine lv_goto (tgt := 71) hx hb d_Mo_special_67 rfl ?_
    exact B_Mo_special_71 true _ _ _ _ hok (lv_sub hl [] rfl) S hq
  refine lv_iload_n hx hb d_Mo_special_0 rfl (lv_at hl 1 rfl) ?_
  refine lv_ldc (v := 46690) hx hb hown (hts _ k_14) d_Mo_special_1 ?_
  refine lv_icmp_eq (tgt := 12) hx hb d_Mo_special_3 rfl (fun h3 => ?_) (fun h3 => ?_)
  · have hq := hq.trans (if_pos h3)
    have hok := ok_pos h3 hok
    exact B_Mo_special_12 _ _ _ _ _ hok (lv_sub hl [0, 1] rfl) S hq
  · have hq := hq.trans (if_neg h3)
    have hok := ok_neg h3 hok
    refine lv_iload_n hx hb d_Mo_special_6 rfl (lv_at hl 1 rfl) ?_
    refine lv_ldc (v := 46706) hx hb hown (hts _ k_13) d_Mo_special_7 ?_
    refine lv_icmp_ne (tgt := 30) hx hb d_Mo_special_9 rfl (fun h9 => ?_) (fun h9 => ?_)
    · have hq := hq.trans (if_neg h9)
      have hok := ok_neg h9 hok
      refine lv_iload_n hx hb d_Mo_special_30 rfl (lv_at hl 1 rfl) ?_
      refine lv_ldc (v := 46689) hx hb hown (hts _ k_15) d_Mo_special_31 ?_
      refine lv_icmp_ne (tgt := 44) hx hb d_Mo_special_33 rfl (fun h33 => ?_) (fun h33 => ?_)
      · have hq := hq.trans (if_neg h33)
        have hok := ok_neg h33 hok
        refine lv_iload_n hx hb d_Mo_special_44 rfl (lv_at hl 1 rfl) ?_
        refine lv_ldc (v := 46705) hx hb hown (hts _ k_16) d_Mo_special_45 ?_
        refine lv_icmp_ne (tgt := 77) hx hb d_Mo_special_47 rfl (fun h47 => ?_) (fun h47 => ?_)
        · have hq := hq.trans (if_neg h47)
          have hok := ok_neg h47 hok
          refine lv_iload_n hx hb d_Mo_special_77 rfl (lv_at hl 1 rfl) ?_
          refine lv_bipush (v := 8) hx hb d_Mo_special_78 (by decide) ?_
          refine lv_ishr hx hb d_Mo_special_80 ?_
          refine lv_sipush (v := 176) hx hb d_Mo_special_81 (by decide) ?_
          refine lv_icmp_ne (tgt := 124) hx hb d_Mo_special_84 rfl (fun h84 => ?_) (fun h84 => ?_)
          · have hq := hq.trans (if_neg h84)
            have hok := ok_neg h84 hok
            refine lv_iload_n hx hb d_Mo_special_124 rfl (lv_at hl 1 rfl) ?_
            refine lv_bipush (v := 9) hx hb d_Mo_special_125 (by decide) ?_
            refine lv_ishr hx hb d_Mo_special_127 ?_
            refine lv_bipush (v := 90) hx hb d_Mo_special_128 (by decide) ?_
            refine lv_icmp_ne (tgt := 143) hx hb d_Mo_special_130 rfl (fun h130 => ?_) (fun h130 => ?_)
            · have hq := hq.trans (if_neg h130)
              have hok := ok_neg h130 hok
              refine lv_iload_n hx hb d_Mo_special_143 rfl (lv_at hl 1 rfl) ?_
              refine lv_ldc (v := 48896) hx hb hown (hts _ k_17) d_Mo_special_144 ?_
              refine lv_icmp_eq (tgt := 152) hx hb d_Mo_special_146 rfl (fun h146 => ?_) (fun h146 => ?_)
              · have hq := hq.trans (if_pos h146)
                have hok := ok_pos h146 hok
                exact B_Mo_special_152 _ _ _ _ hok (lv_sub hl [] rfl) S hq
              · have hq := hq.trans (if_neg h146)
                have hok := ok_neg h146 hok
                refine lv_bipush (v := 6) hx hb d_Mo_special_149 (by decide) ?_
                exact ret _ _ _ _ _ _ S hq d_Mo_special_151
            · have hq := hq.trans (if_pos h130)
              have hok := ok_pos h130 hok
              refine lv_aload_n hx hb d_Mo_special_133 rfl (lv_at hl 0 rfl) ?_
              refine lv_iload_n hx hb d_Mo_special_134 rfl (lv_at hl 1 rfl) ?_
              refine lv_sipush (v := 511) hx hb d_Mo_special_135 (by decide) ?_
              refine lv_iand hx hb d_Mo_special_138 ?_
              obtain ⟨g1, hok⟩ := hok
              refine callVI X S hl (c_Mo_push (v1 &&& (511 : Int32)) _ g1) v_Mo_164 0 6 ⟨rfl, rfl⟩ (rk_dec (by decide)) rfl rfl (Nat.le_of_ble_eq_true rfl) d_Mo_special_139 (fun r1 σ1 H locs e1 S => ?_)
              have hq := hq.trans (ap2_eq e1)
              have hok := ok_ap2 e1 hok
              exact ret _ _ _ _ _ _ S hq d_Mo_special_142
          · have hq := hq.trans (if_pos h84)
            have hok := ok_pos h84 hok
            refine lv_aload_n hx hb d_Mo_special_87 rfl (lv_at hl 0 rfl) ?_
            refine g_Mo_13 hx hb hts hown hK S.1 d_Mo_special_88 ?_
            refine lv_bipush (v := 13) hx hb d_Mo_special_91 (by decide) ?_
            refine lv_dup2_11 hx hb d_Mo_special_93 rfl rfl ?_
            refine ld_M_2 (k := 13) hx hb hK S.1 (vin_dec (by decide)) (by decide) d_Mo_special_94 ?_
            refine lv_iload_n hx hb d_Mo_special_95 rfl (lv_at hl 1 rfl) ?_
            refine lv_sipush (v := 128) hx hb d_Mo_special_96 (by decide) ?_
            refine lv_iand hx hb d_Mo_special_99 ?_
            refine lv_if_ne (tgt := 112) hx hb d_Mo_special_100 rfl (fun h100 => ?_) (fun h100 => ?_)
            · have hq := hq.trans (if_neg h100)
              have hok := ok_neg h100 hok
              refine lv_bipush (v := -4) hx hb d_Mo_special_112 (by decide) ?_
              refine lv_iload_n hx hb d_Mo_special_114 rfl (lv_at hl 1 rfl) ?_
              refine lv_bipush (v := 127) hx hb d_Mo_special_115 (by decide) ?_
              refine lv_iand hx hb d_Mo_special_117 ?_
              refine lv_imul hx hb d_Mo_special_118 ?_
              exact B_Mo_special_119 _ _ _ _ _ _ hok (lv_sub hl [] rfl) S hq
            · have hq := hq.trans (if_pos h100)
              have hok := ok_pos h100 hok
              refine lv_iconst (v := 4) hx hb d_Mo_special_103 (by decide) ?_
              refine lv_iload_n hx hb d_Mo_special_104 rfl (lv_at hl 1 rfl) ?_
              refine lv_bipush (v := 127) hx hb d_Mo_special_105 (by decide) ?_
              refine lv_iand hx hb d_Mo_special_107 ?_
              refine lv_imul hx hb d_Mo_special_108 ?_
              refine lv_goto (tgt := 119) hx hb d_Mo_special_109 rfl ?_
              exact B_Mo_special_119 _ _ _ _ _ _ hok (lv_sub hl [] rfl) S hq
        · have hq := hq.trans (if_pos h47)
          have hok := ok_pos h47 hok
          refine lv_aload_n hx hb d_Mo_special_50 rfl (lv_at hl 0 rfl) ?_
          refine lv_aload_n hx hb d_Mo_special_51 rfl (lv_at hl 0 rfl) ?_
          refine g_Mo_67 hx hb hts hown hK S.1 d_Mo_special_52 ?_
          refine lv_if_ne (tgt := 66) hx hb d_Mo_special_55 rfl (fun h55 => ?_) (fun h55 => ?_)
          · have hq := hq.trans (if_neg h55)
            have hok := ok_neg h55 hok
            exact B_Mo_special_66 _ _ _ _ hok (lv_sub hl [] rfl) S hq
          · have hq := hq.trans (if_pos h55)
            have hok := ok_pos h55 hok
            refine lv_aload_n hx hb d_Mo_special_58 rfl (lv_at hl 0 rfl) ?_
            refine callVIp X S hl (c_Mo_level _) v_Mo_70 0 6 ⟨rfl, rfl⟩ (rk_dec (by decide)) rfl rfl (Nat.le_of_ble_eq_true rfl) d_Mo_special_59 (fun H locs S => ?_)
            refine lv_iconst (v := -1) hx hb d_Mo_special_62 (by decide) ?_
            refine lv_icmp_le (tgt := 70) hx hb d_Mo_special_63 rfl (fun h63 => ?_) (fun h63 => ?_)
            · have hq := hq.trans (if_pos h63)
              have hok := ok_pos h63 hok
              refine lv_iconst (v := 0) hx hb d_Mo_special_70 (by decide) ?_
              exact B_Mo_special_71 false _ _ _ _ hok (lv_sub hl [] rfl) S hq
            · have hq := hq.trans (if_neg h63)
              have hok := ok_neg h63 hok
              exact B_Mo_special_66 _ _ _ _ hok (lv_sub hl [] rfl) S hq
      · have hq := hq.trans (if_pos h33)
        have hok := ok_pos h33 hok
        refine lv_aload_n hx hb d_Mo_special_36 rfl (lv_at hl 0 rfl) ?_
        refine lv_iconst (v := 0) hx hb d_Mo_special_37 (by decide) ?_
        refine p_Mo_67 (b := false) hx hb hts hown hK S d_Mo_special_38 (fun H locs S => ?_)
        refine lv_goto (tgt := 152) hx hb d_Mo_special_41 rfl ?_
        exact B_Mo_special_152 _ _ _ _ hok (lv_sub hl [] rfl) S hq
    · have hq := hq.trans (if_pos h9)
      have hok := ok_pos h9 hok
      exact B_Mo_special_12 _ _ _ _ _ hok (lv_sub hl [0, 1] rfl) S hq
set_option maxHeartbeats 4000000 in
set_option maxRecDepth 100000 in
theorem c_Mo_plain (v1 : Int32) (σ : nS) (hok : o_Mo_plain v1 σ) : CtI l D cI cZ (wM cI cZ a) exM y_Mo_plain b_Mo_plain 5 { frames := 4, cells := 0, slots := 0, locals := 94 } [.ref (a 0), .int v1] σ (s_Mo_plain v1 σ) := by
  generalize hF : s_Mo_plain v1 σ = F
  refine metI exM_ok (by decide) (Nat.le_of_ble_eq_true rfl) (fun p e s m args below meth c A Q ls X S hl ret => ?_)
  have hq := hF.symm
  obtain ⟨hx, hb, hml, hown, hts, hK, hA, hE, hlk, hEo⟩ := id X
  have hl : lv_has ls 5 [(0, .ref (a 0)), (1, .int v1)] := hl
  have B_Mo_plain_188 : ∀ (k1 : Int32) (k2 : Int32) (k3 : Bool) (σ : nS) (H : Heap) (locs : List Loc) (ls : Array Slot), (vp_in k1 16) → (o_Mo_plain_188 k1 k2 k3 σ) → lv_has ls 5 [] → St D (wM cI cZ a) A s σ H locs → F = s_Mo_plain_188 k1 k2 k3 σ → W p l e ({ frames := 4, cells := 0, slots := 0, locals := 94 } : Room) s m args below meth c H locs 0 0 Q (F0 m 188 ls [.int (bI k3), .int k2, .int k1, .ref (a 0)]) := by
    intro k1 k2 k3 σ H locs ls qk1_16 hok hl S hq
    obtain ⟨g1, hok⟩ := hok
    refine callVI X S hl (c_Mo_move k1 k2 k3 _ qk1_16 g1) v_Mo_180 0 6 ⟨rfl, rfl⟩ (rk_dec (by decide)) rfl rfl (Nat.le_of_ble_eq_true rfl) d_Mo_plain_188 (fun r1 σ1 H locs e1 S => ?_)
    have hq := hq.trans (ap2_eq e1)
    have hok := ok_ap2 e1 hok
    exact ret _ _ _ _ _ _ S hq d_Mo_plain_191
  have B_Mo_plain_151 : ∀ (v1 : Int32) (v2 : Int32) (σ : nS) (H : Heap) (locs : List Loc) (ls : Array Slot), (o_Mo_plain_151 v1 v2 σ) → lv_has ls 5 [(0, .ref (a 0)), (1, .int v1), (2, .int v2)] → St D (wM cI cZ a) A s σ H locs → F = s_Mo_plain_151 v1 v2 σ → W p l e ({ frames := 4, cells := 0, slots := 0, locals := 94 } : Room) s m args below meth c H locs 0 0 Q (F0 m 151 ls []) := by
    intro v1 v2 σ H locs ls hok hl S hq
    refine lv_aload_n hx hb d_Mo_plain_151 rfl (lv_at hl 0 rfl) ?_
    refine lv_iload_n hx hb d_Mo_plain_152 rfl (lv_at hl 1 rfl) ?_
    refine lv_bipush (v := 7) hx hb d_Mo_plain_153 (by decide) ?_
    refine lv_iand hx hb d_Mo_plain_155 ?_
    refine lv_aload_n hx hb d_Mo_plain_156 rfl (lv_at hl 0 rfl) ?_
    refine g_Mo_13 hx hb hts hown hK S.1 d_Mo_plain_157 ?_
    refine lv_iload_n hx hb d_Mo_plain_160 rfl (lv_at hl 1 rfl) ?_
    refine lv_iconst (v := 3) hx hb d_Mo_plain_161 (by decide) ?_
    refine lv_ishr hx hb d_Mo_plain_162 ?_
    refine lv_bipush (v := 7) hx hb d_Mo_plain_163 (by decide) ?_
    refine lv_iand hx hb d_Mo_plain_165 ?_
    refine ld_M_2 (k := (((v1 >>> ((3 : Int32) &&& 31)) &&& (7 : Int32))).toNatClampNeg) hx hb hK S.1 (vin_and7_16 _) rfl d_Mo_plain_166 ?_
    refine lv_iconst (v := 4) hx hb d_Mo_plain_167 (by decide) ?_
    refine lv_iload_n hx hb d_Mo_plain_168 rfl (lv_at hl 1 rfl) ?_
    refine lv_bipush (v := 6) hx hb d_Mo_plain_169 (by decide) ?_
    refine lv_ishr hx hb d_Mo_plain_171 ?_
    refine lv_bipush (v := 31) hx hb d_Mo_plain_172 (by decide) ?_
    refine lv_iand hx hb d_Mo_plain_174 ?_
    refine lv_imul hx hb d_Mo_plain_175 ?_
    refine lv_iadd hx hb d_Mo_plain_176 ?_
    refine lv_iload_n hx hb d_Mo_plain_177 rfl (lv_at hl 2 rfl) ?_
    refine lv_bipush (v := 13) hx hb d_Mo_plain_178 (by decide) ?_
    refine lv_icmp_ne (tgt := 187) hx hb d_Mo_plain_180 rfl (fun h180 => ?_) (fun h180 => ?_)
    · have hq := hq.trans (if_neg h180)
      have hok := ok_neg h180 hok
      refine lv_iconst (v := 0) hx hb d_Mo_plain_187 (by decide) ?_
      exact B_Mo_plain_188 _ _ false _ _ _ _ (vin_and7_16 _) hok (lv_sub hl [] rfl) S hq
    · have hq := hq.trans (if_pos h180)
      have hok := ok_pos h180 hok
      refine lv_iconst (v := 1) hx hb d_Mo_plain_183 (by decide) ?_
      refine lv_goto (tgt := 188) hx hb d_Mo_plain_184 rfl ?_
      exact B_Mo_plain_188 _ _ true _ _ _ _ (vin_and7_16 _) hok (lv_sub hl [] rfl) S hq
  have B_Mo_plain_238 : ∀ (k1 : Int32) (k2 : Int32) (k3 : Bool) (σ : nS) (H : Heap) (locs : List Loc) (ls : Array Slot), (vp_in k1 16) → (o_Mo_plain_238 k1 k2 k3 σ) → lv_has ls 5 [] → St D (wM cI cZ a) A s σ H locs → F = s_Mo_plain_238 k1 k2 k3 σ → W p l e ({ frames := 4, cells := 0, slots := 0, locals := 94 } : Room) s m args below meth c H locs 0 0 Q (F0 m 238 ls [.int (bI k3), .int k2, .int k1, .ref (a 0)]) := by
    intro k1 k2 k3 σ H locs ls qk1_16 hok hl S hq
    obtain ⟨g2, hok⟩ := hok
    refine callVI X S hl (c_Mo_move k1 k2 k3 _ qk1_16 g2) v_Mo_180 0 6 ⟨rfl, rfl⟩ (rk_dec (by decide)) rfl rfl (Nat.le_of_ble_eq_true rfl) d_Mo_plain_238 (fun r1 σ1 H locs e1 S => ?_)
    have hq := hq.trans (ap2_eq e1)
    have hok := ok_ap2 e1 hok
    exact ret _ _ _ _ _ _ S hq d_Mo_plain_241
  have B_Mo_plain_204 : ∀ (v1 : Int32) (v2 : Int32) (σ : nS) (H : Heap) (locs : List Loc) (ls : Array Slot), (o_Mo_plain_204 v1 v2 σ) → lv_has ls 5 [(0, .ref (a 0)), (1, .int v1), (2, .int v2)] → St D (wM cI cZ a) A s σ H locs → F = s_Mo_plain_204 v1 v2 σ → W p l e ({ frames := 4, cells := 0, slots := 0, locals := 94 } : Room) s m args below meth c H locs 0 0 Q (F0 m 204 ls []) := by
    intro v1 v2 σ H locs ls hok hl S hq
    refine lv_aload_n hx hb d_Mo_plain_204 rfl (lv_at hl 0 rfl) ?_
    refine lv_iload_n hx hb d_Mo_plain_205 rfl (lv_at hl 1 rfl) ?_
    refine lv_bipush (v := 8) hx hb d_Mo_plain_206 (by decide) ?_
    refine lv_ishr hx hb d_Mo_plain_208 ?_
    refine lv_bipush (v := 7) hx hb d_Mo_plain_209 (by decide) ?_
    refine lv_iand hx hb d_Mo_plain_211 ?_
    refine lv_aload_n hx hb d_Mo_plain_212 rfl (lv_at hl 0 rfl) ?_
    refine g_Mo_13 hx hb hts hown hK S.1 d_Mo_plain_213 ?_
    refine lv_bipush (v := 13) hx hb d_Mo_plain_216 (by decide) ?_
    refine ld_M_2 (k := 13) hx hb hK S.1 (vin_dec (by decide)) (by decide) d_Mo_plain_218 ?_
    refine lv_iconst (v := 4) hx hb d_Mo_plain_219 (by decide) ?_
    refine lv_iload_n hx hb d_Mo_plain_220 rfl (lv_at hl 1 rfl) ?_
    refine lv_sipush (v := 255) hx hb d_Mo_plain_221 (by decide) ?_
    refine lv_iand hx hb d_Mo_plain_224 ?_
    refine lv_imul hx hb d_Mo_plain_225 ?_
    refine lv_iadd hx hb d_Mo_plain_226 ?_
    refine lv_iload_n hx hb d_Mo_plain_227 rfl (lv_at hl 2 rfl) ?_
    refine lv_bipush (v := 19) hx hb d_Mo_plain_228 (by decide) ?_
    refine lv_icmp_ne (tgt := 237) hx hb d_Mo_plain_230 rfl (fun h230 => ?_) (fun h230 => ?_)
    · have hq := hq.trans (if_neg h230)
      have hok := ok_neg h230 hok
      refine lv_iconst (v := 0) hx hb d_Mo_plain_237 (by decide) ?_
      exact B_Mo_plain_238 _ _ false _ _ _ _ (vin_and7_16 _) hok (lv_sub hl [] rfl) S hq
    · have hq := hq.trans (if_pos h230)
      have hok := ok_pos h230 hok
      refine lv_iconst (v := 1) hx hb d_Mo_plain_233 (by decide) ?_
      refine lv_goto (tgt := 238) hx hb d_Mo_plain_234 rfl ?_
      exact B_Mo_plain_238 _ _ true _ _ _ _ (vin_and7_16 _) hok (lv_sub hl [] rfl) S hq
  have B_Mo_plain_109 : ∀ (v1 : Int32) (v2 : Int32) (σ : nS) (H : Heap) (locs : List Loc) (ls : Array Slot), (o_Mo_plain_109 v1 v2 σ) → lv_has ls 5 [(0, .ref (a 0)), (1, .int v1), (2, .int v2)] → St D (wM cI cZ a) A s σ H locs → F = s_Mo_plain_109 v1 v2 σ → W p l e ({ frames := 4, cells := 0, slots := 0, locals := 94 } : Room) s m args below meth c H locs 0 0 Q (F0 m 109 ls []) := by
    intro v1 v2 σ H locs ls hok hl S hq
    refine lv_iload_n hx hb d_Mo_plain_109 rfl (lv_at hl 1 rfl) ?_
    refine lv_bipush (v := 10) hx hb d_Mo_plain_110 (by decide) ?_
    refine lv_ishr hx hb d_Mo_plain_112 ?_
    refine lv_bipush (v := 16) hx hb d_Mo_plain_113 (by decide) ?_
    refine lv_icmp_ne (tgt := 124) hx hb d_Mo_plain_115 rfl (fun h115 => ?_) (fun h115 => ?_)
    · have hq := hq.trans (if_neg h115)
      have hok := ok_neg h115 hok
      refine lv_iload_n hx hb d_Mo_plain_124 rfl (lv_at hl 1 rfl) ?_
      refine lv_bipush (v := 8) hx hb d_Mo_plain_125 (by decide) ?_
      refine lv_ishr hx hb d_Mo_plain_127 ?_
      refine lv_bipush (v := 70) hx hb d_Mo_plain_128 (by decide) ?_
      refine lv_icmp_ne (tgt := 139) hx hb d_Mo_plain_130 rfl (fun h130 => ?_) (fun h130 => ?_)
      · have hq := hq.trans (if_neg h130)
        have hok := ok_neg h130 hok
        refine lv_iload_n hx hb d_Mo_plain_139 rfl (lv_at hl 2 rfl) ?_
        refine lv_bipush (v := 12) hx hb d_Mo_plain_140 (by decide) ?_
        refine lv_icmp_eq (tgt := 151) hx hb d_Mo_plain_142 rfl (fun h142 => ?_) (fun h142 => ?_)
        · have hq := hq.trans (if_pos h142)
          have hok := ok_pos h142 hok
          exact B_Mo_plain_151 _ _ _ _ _ _ hok (lv_sub hl [0, 1, 2] rfl) S hq
        · have hq := hq.trans (if_neg h142)
          have hok := ok_neg h142 hok
          refine lv_iload_n hx hb d_Mo_plain_145 rfl (lv_at hl 2 rfl) ?_
          refine lv_bipush (v := 13) hx hb d_Mo_plain_146 (by decide) ?_
          refine lv_icmp_ne (tgt := 192) hx hb d_Mo_plain_148 rfl (fun h148 => ?_) (fun h148 => ?_)
          · have hq := hq.trans (if_neg h148)
            have hok := ok_neg h148 hok
            refine lv_iload_n hx hb d_Mo_plain_192 rfl (lv_at hl 2 rfl) ?_
            refine lv_bipush (v := 18) hx hb d_Mo_plain_193 (by decide) ?_
            refine lv_icmp_eq (tgt := 204) hx hb d_Mo_plain_195 rfl (fun h195 => ?_) (fun h195 => ?_)
            · have hq := hq.trans (if_pos h195)
              have hok := ok_pos h195 hok
              exact B_Mo_plain_204 _ _ _ _ _ _ hok (lv_sub hl [0, 1, 2] rfl) S hq
            · have hq := hq.trans (if_neg h195)
              have hok := ok_neg h195 hok
              refine lv_iload_n hx hb d_Mo_plain_198 rfl (lv_at hl 2 rfl) ?_
              refine lv_bipush (v := 19) hx hb d_Mo_plain_199 (by decide) ?_
              refine lv_icmp_ne (tgt := 242) hx hb d_Mo_plain_201 rfl (fun h201 => ?_) (fun h201 => ?_)
              · have hq := hq.trans (if_neg h201)
                have hok := ok_neg h201 hok
                refine lv_iload_n hx hb d_Mo_plain_242 rfl (lv_at hl 1 rfl) ?_
                refine lv_bipush (v := 12) hx hb d_Mo_plain_243 (by decide) ?_
                refine lv_ishr hx hb d_Mo_plain_245 ?_
                refine lv_bipush (v := 11) hx hb d_Mo_plain_246 (by decide) ?_
                refine lv_icmp_ne (tgt := 259) hx hb d_Mo_plain_248 rfl (fun h248 => ?_) (fun h248 => ?_)
                · have hq := hq.trans (if_neg h248)
                  have hok := ok_neg h248 hok
                  refine lv_bipush (v := 6) hx hb d_Mo_plain_259 (by decide) ?_
                  exact ret _ _ _ _ _ _ S hq d_Mo_plain_261
                · have hq := hq.trans (if_pos h248)
                  have hok := ok_pos h248 hok
                  refine lv_aload_n hx hb d_Mo_plain_251 rfl (lv_at hl 0 rfl) ?_
                  refine lv_iload_n hx hb d_Mo_plain_252 rfl (lv_at hl 1 rfl) ?_
                  obtain ⟨g3, hok⟩ := hok
                  refine callVI X S hl (c_Mo_special v1 _ g3) v_Mo_184 0 6 ⟨rfl, rfl⟩ (rk_dec (by decide)) rfl rfl (Nat.le_of_ble_eq_true rfl) d_Mo_plain_253 (fun r1 σ1 H locs e1 S => ?_)
                  have hq := hq.trans (ap2_eq e1)
                  have hok := ok_ap2 e1 hok
                  refine lv_goto (tgt := 261) hx hb d_Mo_plain_256 rfl ?_
                  exact ret _ _ _ _ _ _ S hq d_Mo_plain_261
              · have hq := hq.trans (if_pos h201)
                have hok := ok_pos h201 hok
                exact B_Mo_plain_204 _ _ _ _ _ _ hok (lv_sub hl [0, 1, 2] rfl) S hq
          · have hq := hq.trans (if_pos h148)
            have hok := ok_pos h148 hok
            exact B_Mo_plain_151 _ _ _ _ _ _ hok (lv_sub hl [0, 1, 2] rfl) S hq
      · have hq := hq.trans (if_pos h130)
        have hok := ok_pos h130 hok
        refine lv_aload_n hx hb d_Mo_plain_133 rfl (lv_at hl 0 rfl) ?_
        refine lv_iload_n hx hb d_Mo_plain_134 rfl (lv_at hl 1 rfl) ?_
        refine callVI X S hl (c_Mo_moveHigh v1 _) v_Mo_177 0 6 ⟨rfl, rfl⟩ (rk_dec (by decide)) rfl rfl (Nat.le_of_ble_eq_true rfl) d_Mo_plain_135 (fun r1 σ1 H locs e1 S => ?_)
        have hq := hq.trans (ap2_eq e1)
        have hok := ok_ap2 e1 hok
        exact ret _ _ _ _ _ _ S hq d_Mo_plain_138
    · have hq := hq.trans (if_pos h115)
      have hok := ok_pos h115 hok
      refine lv_aload_n hx hb d_Mo_plain_118 rfl (lv_at hl 0 rfl) ?_
      refine lv_iload_n hx hb d_Mo_plain_119 rfl (lv_at hl 1 rfl) ?_
      refine callVI X S hl (c_Mo_logic v1 _) v_Mo_174 0 6 ⟨rfl, rfl⟩ (rk_dec (by decide)) rfl rfl (Nat.le_of_ble_eq_true rfl) d_Mo_plain_120 (fun r1 σ1 H locs e1 S => ?_)
      have hq := hq.trans (ap2_eq e1)
      have hok := ok_ap2 e1 hok
      exact ret _ _ _ _ _ _ S hq d_Mo_plain_123
  have B_Mo_plain_89 : ∀ (k1 : Int32) (k2 : Int32) (σ : nS) (H : Heap) (locs : List Loc) (ls : Array Slot), (vp_in k1 16) → (o_Mo_plain_89 k1 k2 σ) → lv_has ls 5 [] → St D (wM cI cZ a) A s σ H locs → F = s_Mo_plain_89 k1 k2 σ → W p l e ({ frames := 4, cells := 0, slots := 0, locals := 94 } : Room) s m args below meth c H locs 0 0 Q (F0 m 89 ls [.int k2, .int k1, .ref (a 2)]) := by
    intro k1 k2 σ H locs ls qk1_16 hok hl S hq
    refine st_M_2 (k := (k1).toNatClampNeg) hx hb hK S qk1_16 rfl d_Mo_plain_89 (fun H locs S => ?_)
    refine lv_iconst (v := 0) hx hb d_Mo_plain_90 (by decide) ?_
    exact ret _ _ _ _ _ _ S hq d_Mo_plain_91
  refine lv_iload_n hx hb d_Mo_plain_0 rfl (lv_at hl 1 rfl) ?_
  refine lv_bipush (v := 11) hx hb d_Mo_plain_1 (by decide) ?_
  refine lv_ishr hx hb d_Mo_plain_3 ?_
  refine lv_istore_n hx hb d_Mo_plain_4 rfl hl (by decide) rfl (fun ls hl => ?_)
  refine lv_iload_n hx hb d_Mo_plain_5 rfl (lv_at hl 0 rfl) ?_
  refine lv_iconst (v := 3) hx hb d_Mo_plain_6 (by decide) ?_
  refine lv_icmp_ge (tgt := 16) hx hb d_Mo_plain_7 rfl (fun h7 => ?_) (fun h7 => ?_)
  · have hq := hq.trans (if_pos h7)
    have hok := ok_pos h7 hok
    refine lv_iload_n hx hb d_Mo_plain_16 rfl (lv_at hl 2 rfl) ?_
    refine lv_bipush (v := 10) hx hb d_Mo_plain_17 (by decide) ?_
    refine lv_ishr hx hb d_Mo_plain_19 ?_
    refine lv_bipush (v := 6) hx hb d_Mo_plain_20 (by decide) ?_
    refine lv_icmp_ne (tgt := 92) hx hb d_Mo_plain_22 rfl (fun h22 => ?_) (fun h22 => ?_)
    · have hq := hq.trans (if_neg h22)
      have hok := ok_neg h22 hok
      refine lv_iload_n hx hb d_Mo_plain_92 rfl (lv_at hl 0 rfl) ?_
      refine lv_iconst (v := 3) hx hb d_Mo_plain_93 (by decide) ?_
      refine lv_icmp_le (tgt := 109) hx hb d_Mo_plain_94 rfl (fun h94 => ?_) (fun h94 => ?_)
      · have hq := hq.trans (if_pos h94)
        have hok := ok_pos h94 hok
        exact B_Mo_plain_109 _ _ _ _ _ _ hok (lv_sub hl [1, 2, 0] rfl) S hq
      · have hq := hq.trans (if_neg h94)
        have hok := ok_neg h94 hok
        refine lv_iload_n hx hb d_Mo_plain_97 rfl (lv_at hl 0 rfl) ?_
        refine lv_bipush (v := 8) hx hb d_Mo_plain_98 (by decide) ?_
        refine lv_icmp_ge (tgt := 109) hx hb d_Mo_plain_100 rfl (fun h100 => ?_) (fun h100 => ?_)
        · have hq := hq.trans (if_pos h100)
          have hok := ok_pos h100 hok
          exact B_Mo_plain_109 _ _ _ _ _ _ hok (lv_sub hl [1, 2, 0] rfl) S hq
        · have hq := hq.trans (if_neg h100)
          have hok := ok_neg h100 hok
          refine lv_aload_n hx hb d_Mo_plain_103 rfl (lv_at hl 1 rfl) ?_
          refine lv_iload_n hx hb d_Mo_plain_104 rfl (lv_at hl 2 rfl) ?_
          refine callVI X S hl (c_Mo_immediate v1 _) v_Mo_171 0 6 ⟨rfl, rfl⟩ (rk_dec (by decide)) rfl rfl (Nat.le_of_ble_eq_true rfl) d_Mo_plain_105 (fun r1 σ1 H locs e1 S => ?_)
          have hq := hq.trans (ap2_eq e1)
          have hok := ok_ap2 e1 hok
          exact ret _ _ _ _ _ _ S hq d_Mo_plain_108
    · have hq := hq.trans (if_pos h22)
      have hok := ok_pos h22 hok
      refine lv_aload_n hx hb d_Mo_plain_25 rfl (lv_at hl 1 rfl) ?_
      refine g_Mo_13 hx hb hts hown hK S.1 d_Mo_plain_26 ?_
      refine lv_iload_n hx hb d_Mo_plain_29 rfl (lv_at hl 2 rfl) ?_
      refine lv_iconst (v := 3) hx hb d_Mo_plain_30 (by decide) ?_
      refine lv_ishr hx hb d_Mo_plain_31 ?_
      refine lv_bipush (v := 7) hx hb d_Mo_plain_32 (by decide) ?_
      refine lv_iand hx hb d_Mo_plain_34 ?_
      refine ld_M_2 (k := (((v1 >>> ((3 : Int32) &&& 31)) &&& (7 : Int32))).toNatClampNeg) hx hb hK S.1 (vin_and7_16 _) rfl d_Mo_plain_35 ?_
      refine lv_istore_n hx hb d_Mo_plain_36 rfl hl (by decide) rfl (fun ls hl => ?_)
      refine lv_aload_n hx hb d_Mo_plain_37 rfl (lv_at hl 2 rfl) ?_
      refine g_Mo_13 hx hb hts hown hK S.1 d_Mo_plain_38 ?_
      refine lv_iload_n hx hb d_Mo_plain_41 rfl (lv_at hl 3 rfl) ?_
      refine lv_bipush (v := 6) hx hb d_Mo_plain_42 (by decide) ?_
      refine lv_ishr hx hb d_Mo_plain_44 ?_
      refine lv_bipush (v := 7) hx hb d_Mo_plain_45 (by decide) ?_
      refine lv_iand hx hb d_Mo_plain_47 ?_
      refine ld_M_2 (k := (((v1 >>> ((6 : Int32) &&& 31)) &&& (7 : Int32))).toNatClampNeg) hx hb hK S.1 (vin_and7_16 _) rfl d_Mo_plain_48 ?_
      refine lv_istore hx hb d_Mo_plain_49 hl (by decide) rfl (fun ls hl => ?_)
      refine lv_aload_n hx hb d_Mo_plain_51 rfl (lv_at hl 3 rfl) ?_
      refine g_Mo_13 hx hb hts hown hK S.1 d_Mo_plain_52 ?_
      refine lv_iload_n hx hb d_Mo_plain_55 rfl (lv_at hl 4 rfl) ?_
      refine lv_bipush (v := 7) hx hb d_Mo_plain_56 (by decide) ?_
      refine lv_iand hx hb d_Mo_plain_58 ?_
      refine lv_iload_n hx hb d_Mo_plain_59 rfl (lv_at hl 4 rfl) ?_
      refine lv_bipush (v := 9) hx hb d_Mo_plain_60 (by decide) ?_
      refine lv_ishr hx hb d_Mo_plain_62 ?_
      refine lv_iconst (v := 1) hx hb d_Mo_plain_63 (by decide) ?_
      refine lv_iand hx hb d_Mo_plain_64 ?_
      refine lv_if_ne (tgt := 79) hx hb d_Mo_plain_65 rfl (fun h65 => ?_) (fun h65 => ?_)
      · have hq := hq.trans (if_neg h65)
        have hok := ok_neg h65 hok
        refine lv_aload_n hx hb d_Mo_plain_79 rfl (lv_at hl 3 rfl) ?_
        refine lv_iload_n hx hb d_Mo_plain_80 rfl (lv_at hl 1 rfl) ?_
        refine lv_iload hx hb d_Mo_plain_81 (lv_at hl 0 rfl) ?_
        refine lv_iconst (v := -1) hx hb d_Mo_plain_83 (by decide) ?_
        refine lv_ixor hx hb d_Mo_plain_84 ?_
        refine lv_iconst (v := 1) hx hb d_Mo_plain_85 (by decide) ?_
        refine callVI X S hl (c_Mo_sum (σ 0 (((v1 >>> ((3 : Int32) &&& 31)) &&& (7 : Int32))).toNatClampNeg) ((σ 0 (((v1 >>> ((6 : Int32) &&& 31)) &&& (7 : Int32))).toNatClampNeg) ^^^ (-1 : Int32)) (1 : Int32) _) v_Mo_128 0 6 ⟨rfl, rfl⟩ (rk_dec (by decide)) rfl rfl (Nat.le_of_ble_eq_true rfl) d_Mo_plain_86 (fun r1 σ1 H locs e1 S => ?_)
        have hq := hq.trans (ap2_eq e1)
        have hok := ok_ap2 e1 hok
        exact B_Mo_plain_89 _ _ _ _ _ _ (vin_and7_16 _) hok (lv_sub hl [] rfl) S hq
      · have hq := hq.trans (if_pos h65)
        have hok := ok_pos h65 hok
        refine lv_aload_n hx hb d_Mo_plain_68 rfl (lv_at hl 3 rfl) ?_
        refine lv_iload_n hx hb d_Mo_plain_69 rfl (lv_at hl 1 rfl) ?_
        refine lv_iload hx hb d_Mo_plain_70 (lv_at hl 0 rfl) ?_
        refine lv_iconst (v := 0) hx hb d_Mo_plain_72 (by decide) ?_
        refine callVI X S hl (c_Mo_sum (σ 0 (((v1 >>> ((3 : Int32) &&& 31)) &&& (7 : Int32))).toNatClampNeg) (σ 0 (((v1 >>> ((6 : Int32) &&& 31)) &&& (7 : Int32))).toNatClampNeg) (0 : Int32) _) v_Mo_128 0 6 ⟨rfl, rfl⟩ (rk_dec (by decide)) rfl rfl (Nat.le_of_ble_eq_true rfl) d_Mo_plain_73 (fun r1 σ1 H locs e1 S => ?_)
        have hq := hq.trans (ap2_eq e1)
        have hok := ok_ap2 e1 hok
        refine lv_goto (tgt := 89) hx hb d_Mo_plain_76 rfl ?_
        exact B_Mo_plain_89 _ _ _ _ _ _ (vin_and7_16 _) hok (lv_sub hl [] rfl) S hq
  · have hq := hq.trans (if_neg h7)
    have hok := ok_neg h7 hok
    refine lv_aload_n hx hb d_Mo_plain_10 rfl (lv_at hl 1 rfl) ?_
    refine lv_iload_n hx hb d_Mo_plain_11 rfl (lv_at hl 2 rfl) ?_
    refine callVI X S hl (c_Mo_shift v1 _) v_Mo_168 0 6 ⟨rfl, rfl⟩ (rk_dec (by decide)) rfl rfl (Nat.le_of_ble_eq_true rfl) d_Mo_plain_12 (fun r1 σ1 H locs e1 S => ?_)
    have hq := hq.trans (ap2_eq e1)
    have hok := ok_ap2 e1 hok
    exact ret _ _ _ _ _ _ S hq d_Mo_plain_15
set_option maxHeartbeats 4000000 in
set_option maxRecDepth 100000 in
theorem c_Mo_does (v1 : Int32) (σ : nS) (hok : o_Mo_does v1 σ) : CtI l D cI cZ (wM cI cZ a) exM y_Mo_does b_Mo_does 3 { frames := 5, cells := 0, slots := 0, locals := 118 } [.ref (a 0), .int v1] σ (s_Mo_does v1 σ) := by
  generalize hF : s_Mo_does v1 σ = F
  refine metI exM_ok (by decide) (Nat.le_of_ble_eq_true rfl) (fun p e s m args below meth c A Q ls X S hl ret => ?_)
  have hq := hF.symm
  obtain ⟨hx, hb, hml, hown, hts, hK, hA, hE, hlk, hEo⟩ := id X
  have hl : lv_has ls 3 [(0, .ref (a 0)), (1, .int v1)] := hl
  have B_Mo_does_143 : ∀ (v2 : Int32) (σ : nS) (H : Heap) (locs : List Loc) (ls : Array Slot), (o_Mo_does_143 v2 σ) → lv_has ls 3 [(2, .int v2)] → St D (wM cI cZ a) A s σ H locs → F = s_Mo_does_143 v2 σ → W p l e ({ frames := 5, cells := 0, slots := 0, locals := 118 } : Room) s m args below meth c H locs 0 0 Q (F0 m 143 ls []) := by
    intro v2 σ H locs ls hok hl S hq
    refine lv_iload_n hx hb d_Mo_does_143 rfl (lv_at hl 0 rfl) ?_
    exact ret _ _ _ _ _ _ S hq d_Mo_does_144
  have B_Mo_does_116 : ∀ (k2 : Int32) (k5 : Int32) (σ : nS) (H : Heap) (locs : List Loc) (ls : Array Slot), (o_Mo_does_116 k2 k5 σ) → lv_has ls 3 [] → St D (wM cI cZ a) A s σ H locs → F = s_Mo_does_116 k2 k5 σ → W p l e ({ frames := 5, cells := 0, slots := 0, locals := 118 } : Room) s m args below meth c H locs 0 0 Q (F0 m 116 ls [.int k5, .int (2 : Int32), .int (4 : Int32), .int k2, .int (15 : Int32), .ref (a 2)]) := by
    intro k2 k5 σ H locs ls hok hl S hq
    refine lv_imul hx hb d_Mo_does_116 ?_
    refine lv_iadd hx hb d_Mo_does_117 ?_
    refine lv_iadd hx hb d_Mo_does_118 ?_
    refine st_M_2 (k := 15) hx hb hK S (vin_dec (by decide)) (by decide) d_Mo_does_119 (fun H locs S => ?_)
    refine lv_iconst (v := 0) hx hb d_Mo_does_120 (by decide) ?_
    exact ret _ _ _ _ _ _ S hq d_Mo_does_121
  have B_Mo_does_58 : ∀ (v2 : Int32) (σ : nS) (H : Heap) (locs : List Loc) (ls : Array Slot), (o_Mo_does_58 v2 σ) → lv_has ls 3 [(2, .int v2)] → St D (wM cI cZ a) A s σ H locs → F = s_Mo_does_58 v2 σ → W p l e ({ frames := 5, cells := 0, slots := 0, locals := 118 } : Room) s m args below meth c H locs 0 0 Q (F0 m 58 ls []) := by
    intro v2 σ H locs ls hok hl S hq
    refine lv_iload_n hx hb d_Mo_does_58 rfl (lv_at hl 0 rfl) ?_
    exact ret _ _ _ _ _ _ S hq d_Mo_does_59
  refine lv_iload_n hx hb d_Mo_does_0 rfl (lv_at hl 1 rfl) ?_
  refine lv_ldc (v := 65415) hx hb hown (hts _ k_18) d_Mo_does_1 ?_
  refine lv_iand hx hb d_Mo_does_3 ?_
  refine lv_sipush (v := 18176) hx hb d_Mo_does_4 (by decide) ?_
  refine lv_icmp_ne (tgt := 16) hx hb d_Mo_does_7 rfl (fun h7 => ?_) (fun h7 => ?_)
  · have hq := hq.trans (if_neg h7)
    have hok := ok_neg h7 hok
    refine lv_iload_n hx hb d_Mo_does_16 rfl (lv_at hl 1 rfl) ?_
    refine lv_bipush (v := 9) hx hb d_Mo_does_17 (by decide) ?_
    refine lv_ishr hx hb d_Mo_does_19 ?_
    refine lv_bipush (v := 94) hx hb d_Mo_does_20 (by decide) ?_
    refine lv_icmp_ne (tgt := 60) hx hb d_Mo_does_22 rfl (fun h22 => ?_) (fun h22 => ?_)
    · have hq := hq.trans (if_neg h22)
      have hok := ok_neg h22 hok
      refine lv_iload_n hx hb d_Mo_does_60 rfl (lv_at hl 1 rfl) ?_
      refine lv_bipush (v := 12) hx hb d_Mo_does_61 (by decide) ?_
      refine lv_ishr hx hb d_Mo_does_63 ?_
      refine lv_bipush (v := 13) hx hb d_Mo_does_64 (by decide) ?_
      refine lv_icmp_ne (tgt := 75) hx hb d_Mo_does_66 rfl (fun h66 => ?_) (fun h66 => ?_)
      · have hq := hq.trans (if_neg h66)
        have hok := ok_neg h66 hok
        refine lv_iload_n hx hb d_Mo_does_75 rfl (lv_at hl 1 rfl) ?_
        refine lv_bipush (v := 11) hx hb d_Mo_does_76 (by decide) ?_
        refine lv_ishr hx hb d_Mo_does_78 ?_
        refine lv_bipush (v := 28) hx hb d_Mo_does_79 (by decide) ?_
        refine lv_icmp_ne (tgt := 122) hx hb d_Mo_does_81 rfl (fun h81 => ?_) (fun h81 => ?_)
        · have hq := hq.trans (if_neg h81)
          have hok := ok_neg h81 hok
          refine lv_aload_n hx hb d_Mo_does_122 rfl (lv_at hl 0 rfl) ?_
          refine lv_iload_n hx hb d_Mo_does_123 rfl (lv_at hl 1 rfl) ?_
          obtain ⟨g1, hok⟩ := hok
          refine callVI X S hl (c_Mo_plain v1 _ g1) v_Mo_197 0 6 ⟨rfl, rfl⟩ (rk_dec (by decide)) rfl rfl (Nat.le_of_ble_eq_true rfl) d_Mo_does_124 (fun r1 σ1 H locs e1 S => ?_)
          have hq := hq.trans (ap2_eq e1)
          have hok := ok_ap2 e1 hok
          refine lv_istore_n hx hb d_Mo_does_127 rfl hl (by decide) rfl (fun ls hl => ?_)
          refine lv_iload_n hx hb d_Mo_does_128 rfl (lv_at hl 0 rfl) ?_
          refine lv_if_ne (tgt := 143) hx hb d_Mo_does_129 rfl (fun h129 => ?_) (fun h129 => ?_)
          · have hq := hq.trans (if_neg h129)
            have hok := ok_neg h129 hok
            exact B_Mo_does_143 _ _ _ _ _ hok (lv_sub hl [0] rfl) S hq
          · have hq := hq.trans (if_pos h129)
            have hok := ok_pos h129 hok
            refine lv_aload_n hx hb d_Mo_does_132 rfl (lv_at hl 1 rfl) ?_
            refine g_Mo_13 hx hb hts hown hK S.1 d_Mo_does_133 ?_
            refine lv_bipush (v := 15) hx hb d_Mo_does_136 (by decide) ?_
            refine lv_dup2_11 hx hb d_Mo_does_138 rfl rfl ?_
            refine ld_M_2 (k := 15) hx hb hK S.1 (vin_dec (by decide)) (by decide) d_Mo_does_139 ?_
            refine lv_iconst (v := 2) hx hb d_Mo_does_140 (by decide) ?_
            refine lv_iadd hx hb d_Mo_does_141 ?_
            refine st_M_2 (k := 15) hx hb hK S (vin_dec (by decide)) (by decide) d_Mo_does_142 (fun H locs S => ?_)
            exact B_Mo_does_143 _ _ _ _ _ hok (lv_sub hl [0] rfl) S hq
        · have hq := hq.trans (if_pos h81)
          have hok := ok_pos h81 hok
          refine lv_iload_n hx hb d_Mo_does_84 rfl (lv_at hl 1 rfl) ?_
          refine lv_sipush (v := 2047) hx hb d_Mo_does_85 (by decide) ?_
          refine lv_iand hx hb d_Mo_does_88 ?_
          refine lv_istore_n hx hb d_Mo_does_89 rfl hl (by decide) rfl (fun ls hl => ?_)
          refine lv_aload_n hx hb d_Mo_does_90 rfl (lv_at hl 1 rfl) ?_
          refine g_Mo_13 hx hb hts hown hK S.1 d_Mo_does_91 ?_
          refine lv_bipush (v := 15) hx hb d_Mo_does_94 (by decide) ?_
          refine lv_dup2_11 hx hb d_Mo_does_96 rfl rfl ?_
          refine ld_M_2 (k := 15) hx hb hK S.1 (vin_dec (by decide)) (by decide) d_Mo_does_97 ?_
          refine lv_iconst (v := 4) hx hb d_Mo_does_98 (by decide) ?_
          refine lv_iconst (v := 2) hx hb d_Mo_does_99 (by decide) ?_
          refine lv_iload_n hx hb d_Mo_does_100 rfl (lv_at hl 0 rfl) ?_
          refine lv_sipush (v := 1023) hx hb d_Mo_does_101 (by decide) ?_
          refine lv_icmp_le (tgt := 115) hx hb d_Mo_does_104 rfl (fun h104 => ?_) (fun h104 => ?_)
          · have hq := hq.trans (if_pos h104)
            have hok := ok_pos h104 hok
            refine lv_iload_n hx hb d_Mo_does_115 rfl (lv_at hl 0 rfl) ?_
            exact B_Mo_does_116 _ _ _ _ _ _ hok (lv_sub hl [] rfl) S hq
          · have hq := hq.trans (if_neg h104)
            have hok := ok_neg h104 hok
            refine lv_iload_n hx hb d_Mo_does_107 rfl (lv_at hl 0 rfl) ?_
            refine lv_sipush (v := 2048) hx hb d_Mo_does_108 (by decide) ?_
            refine lv_isub hx hb d_Mo_does_111 ?_
            refine lv_goto (tgt := 116) hx hb d_Mo_does_112 rfl ?_
            exact B_Mo_does_116 _ _ _ _ _ _ hok (lv_sub hl [] rfl) S hq
      · have hq := hq.trans (if_pos h66)
        have hok := ok_pos h66 hok
        refine lv_aload_n hx hb d_Mo_does_69 rfl (lv_at hl 0 rfl) ?_
        refine lv_iload_n hx hb d_Mo_does_70 rfl (lv_at hl 1 rfl) ?_
        refine callVI X S hl (c_Mo_conditional v1 _) v_Mo_194 0 6 ⟨rfl, rfl⟩ (rk_dec (by decide)) rfl rfl (Nat.le_of_ble_eq_true rfl) d_Mo_does_71 (fun r1 σ1 H locs e1 S => ?_)
        have hq := hq.trans (ap2_eq e1)
        have hok := ok_ap2 e1 hok
        exact ret _ _ _ _ _ _ S hq d_Mo_does_74
    · have hq := hq.trans (if_pos h22)
      have hok := ok_pos h22 hok
      refine lv_aload_n hx hb d_Mo_does_25 rfl (lv_at hl 0 rfl) ?_
      refine lv_iload_n hx hb d_Mo_does_26 rfl (lv_at hl 1 rfl) ?_
      refine lv_sipush (v := 511) hx hb d_Mo_does_27 (by decide) ?_
      refine lv_iand hx hb d_Mo_does_30 ?_
      obtain ⟨g2, hok⟩ := hok
      refine callVI X S hl (c_Mo_pop (v1 &&& (511 : Int32)) _ g2) v_Mo_191 0 6 ⟨rfl, rfl⟩ (rk_dec (by decide)) rfl rfl (Nat.le_of_ble_eq_true rfl) d_Mo_does_31 (fun r1 σ1 H locs e1 S => ?_)
      have hq := hq.trans (ap2_eq e1)
      have hok := ok_ap2 e1 hok
      refine lv_istore_n hx hb d_Mo_does_34 rfl hl (by decide) rfl (fun ls hl => ?_)
      refine lv_iload_n hx hb d_Mo_does_35 rfl (lv_at hl 0 rfl) ?_
      refine lv_if_ne (tgt := 58) hx hb d_Mo_does_36 rfl (fun h36 => ?_) (fun h36 => ?_)
      · have hq := hq.trans (if_neg h36)
        have hok := ok_neg h36 hok
        exact B_Mo_does_58 _ _ _ _ _ hok (lv_sub hl [0] rfl) S hq
      · have hq := hq.trans (if_pos h36)
        have hok := ok_pos h36 hok
        refine lv_iload_n hx hb d_Mo_does_39 rfl (lv_at hl 2 rfl) ?_
        refine lv_sipush (v := 256) hx hb d_Mo_does_40 (by decide) ?_
        refine lv_iand hx hb d_Mo_does_43 ?_
        refine lv_if_ne (tgt := 58) hx hb d_Mo_does_44 rfl (fun h44 => ?_) (fun h44 => ?_)
        · have hq := hq.trans (if_neg h44)
          have hok := ok_neg h44 hok
          exact B_Mo_does_58 _ _ _ _ _ hok (lv_sub hl [0] rfl) S hq
        · have hq := hq.trans (if_pos h44)
          have hok := ok_pos h44 hok
          refine lv_aload_n hx hb d_Mo_does_47 rfl (lv_at hl 1 rfl) ?_
          refine g_Mo_13 hx hb hts hown hK S.1 d_Mo_does_48 ?_
          refine lv_bipush (v := 15) hx hb d_Mo_does_51 (by decide) ?_
          refine lv_dup2_11 hx hb d_Mo_does_53 rfl rfl ?_
          refine ld_M_2 (k := 15) hx hb hK S.1 (vin_dec (by decide)) (by decide) d_Mo_does_54 ?_
          refine lv_iconst (v := 2) hx hb d_Mo_does_55 (by decide) ?_
          refine lv_iadd hx hb d_Mo_does_56 ?_
          refine st_M_2 (k := 15) hx hb hK S (vin_dec (by decide)) (by decide) d_Mo_does_57 (fun H locs S => ?_)
          exact B_Mo_does_58 _ _ _ _ _ hok (lv_sub hl [0] rfl) S hq
  · have hq := hq.trans (if_pos h7)
    have hok := ok_pos h7 hok
    refine lv_aload_n hx hb d_Mo_does_10 rfl (lv_at hl 0 rfl) ?_
    refine lv_iload_n hx hb d_Mo_does_11 rfl (lv_at hl 1 rfl) ?_
    obtain ⟨g3, hok⟩ := hok
    refine callVI X S hl (c_Mo_exchange v1 _ g3) v_Mo_188 0 6 ⟨rfl, rfl⟩ (rk_dec (by decide)) rfl rfl (Nat.le_of_ble_eq_true rfl) d_Mo_does_12 (fun r1 σ1 H locs e1 S => ?_)
    have hq := hq.trans (ap2_eq e1)
    have hok := ok_ap2 e1 hok
    exact ret _ _ _ _ _ _ S hq d_Mo_does_15
set_option maxHeartbeats 4000000 in
set_option maxRecDepth 100000 in
theorem c_Mo_fetched (σ : nS) (hok : o_Mo_fetched σ) : CtI l D cI cZ (wM cI cZ a) exM y_Mo_fetched b_Mo_fetched 2 { frames := 6, cells := 0, slots := 0, locals := 140 } [.ref (a 0)] σ (s_Mo_fetched σ) := by
  generalize hF : s_Mo_fetched σ = F
  refine metI exM_ok (by decide) (Nat.le_of_ble_eq_true rfl) (fun p e s m args below meth c A Q ls X S hl ret => ?_)
  have hq := hF.symm
  obtain ⟨hx, hb, hml, hown, hts, hK, hA, hE, hlk, hEo⟩ := id X
  have hl : lv_has ls 2 [(0, .ref (a 0))] := hl
  have B_Mo_fetched_19 : ∀ (σ : nS) (H : Heap) (locs : List Loc) (ls : Array Slot), (o_Mo_fetched_19 σ) → lv_has ls 2 [] → St D (wM cI cZ a) A s σ H locs → F = s_Mo_fetched_19 σ → W p l e ({ frames := 6, cells := 0, slots := 0, locals := 140 } : Room) s m args below meth c H locs 0 0 Q (F0 m 19 ls []) := by
    intro σ H locs ls hok hl S hq
    refine lv_iconst (v := 5) hx hb d_Mo_fetched_19 (by decide) ?_
    exact ret _ _ _ _ _ _ S hq d_Mo_fetched_20
  refine lv_aload_n hx hb d_Mo_fetched_0 rfl (lv_at hl 0 rfl) ?_
  refine g_Mo_13 hx hb hts hown hK S.1 d_Mo_fetched_1 ?_
  refine lv_bipush (v := 15) hx hb d_Mo_fetched_4 (by decide) ?_
  refine ld_M_2 (k := 15) hx hb hK S.1 (vin_dec (by decide)) (by decide) d_Mo_fetched_6 ?_
  refine lv_istore_n hx hb d_Mo_fetched_7 rfl hl (by decide) rfl (fun ls hl => ?_)
  refine lv_iload_n hx hb d_Mo_fetched_8 rfl (lv_at hl 0 rfl) ?_
  refine lv_if_lt (tgt := 19) hx hb d_Mo_fetched_9 rfl (fun h9 => ?_) (fun h9 => ?_)
  · have hq := hq.trans (if_pos h9)
    have hok := ok_pos h9 hok
    exact B_Mo_fetched_19 _ _ _ _ hok (lv_sub hl [] rfl) S hq
  · have hq := hq.trans (if_neg h9)
    have hok := ok_neg h9 hok
    refine lv_iload_n hx hb d_Mo_fetched_12 rfl (lv_at hl 0 rfl) ?_
    refine lv_sipush (v := 1022) hx hb d_Mo_fetched_13 (by decide) ?_
    refine lv_icmp_le (tgt := 21) hx hb d_Mo_fetched_16 rfl (fun h16 => ?_) (fun h16 => ?_)
    · have hq := hq.trans (if_pos h16)
      have hok := ok_pos h16 hok
      refine lv_aload_n hx hb d_Mo_fetched_21 rfl (lv_at hl 1 rfl) ?_
      refine lv_iload_n hx hb d_Mo_fetched_22 rfl (lv_at hl 0 rfl) ?_
      refine lv_iconst (v := 3) hx hb d_Mo_fetched_23 (by decide) ?_
      refine callVZp X S hl (c_Mo_barred (σ 0 15) (3 : Int32) _) v_Mo_49 0 6 ⟨rfl, rfl⟩ (rk_dec (by decide)) rfl rfl (Nat.le_of_ble_eq_true rfl) d_Mo_fetched_24 (fun H locs S => ?_)
      refine r_ifeqZ (tgt := 32) hx hb d_Mo_fetched_27 rfl (fun h27 => ?_) (fun h27 => ?_)
      · have hq := hq.trans (if_neg h27)
        have hok := ok_neg h27 hok
        refine lv_aload_n hx hb d_Mo_fetched_32 rfl (lv_at hl 1 rfl) ?_
        refine lv_aload_n hx hb d_Mo_fetched_33 rfl (lv_at hl 1 rfl) ?_
        refine g_Mo_7 hx hb hts hown hK S.1 d_Mo_fetched_34 ?_
        refine lv_iload_n hx hb d_Mo_fetched_37 rfl (lv_at hl 0 rfl) ?_
        obtain ⟨g1, hok⟩ := hok
        refine ld_M_1 (k := ((σ 0 15)).toNatClampNeg) hx hb hK S.1 g1 rfl d_Mo_fetched_38 ?_
        refine lv_aload_n hx hb d_Mo_fetched_39 rfl (lv_at hl 1 rfl) ?_
        refine g_Mo_7 hx hb hts hown hK S.1 d_Mo_fetched_40 ?_
        refine lv_iload_n hx hb d_Mo_fetched_43 rfl (lv_at hl 0 rfl) ?_
        refine lv_iconst (v := 1) hx hb d_Mo_fetched_44 (by decide) ?_
        refine lv_iadd hx hb d_Mo_fetched_45 ?_
        obtain ⟨g2, hok⟩ := hok
        refine ld_M_1 (k := (((σ 0 15) + (1 : Int32))).toNatClampNeg) hx hb hK S.1 g2 rfl d_Mo_fetched_46 ?_
        refine lv_bipush (v := 8) hx hb d_Mo_fetched_47 (by decide) ?_
        refine lv_ishl hx hb d_Mo_fetched_49 ?_
        refine lv_ior hx hb d_Mo_fetched_50 ?_
        obtain ⟨g3, hok⟩ := hok
        refine callVI X S hl (c_Mo_does ((σ 9 ((σ 0 15)).toNatClampNeg) ||| ((σ 9 (((σ 0 15) + (1 : Int32))).toNatClampNeg) <<< ((8 : Int32) &&& 31))) _ g3) v_Mo_200 0 6 ⟨rfl, rfl⟩ (rk_dec (by decide)) rfl rfl (Nat.le_of_ble_eq_true rfl) d_Mo_fetched_51 (fun r1 σ1 H locs e1 S => ?_)
        have hq := hq.trans (ap2_eq e1)
        have hok := ok_ap2 e1 hok
        exact ret _ _ _ _ _ _ S hq d_Mo_fetched_54
      · have hq := hq.trans (if_pos h27)
        have hok := ok_pos h27 hok
        refine lv_iconst (v := 4) hx hb d_Mo_fetched_30 (by decide) ?_
        exact ret _ _ _ _ _ _ S hq d_Mo_fetched_31
    · have hq := hq.trans (if_neg h16)
      have hok := ok_neg h16 hok
      exact B_Mo_fetched_19 _ _ _ _ hok (lv_sub hl [] rfl) S hq
set_option maxHeartbeats 4000000 in
set_option maxRecDepth 100000 in
theorem c_Mo_step (σ : nS) (hok : o_Mo_step σ) : CtV l D cI cZ (wM cI cZ a) exM y_Mo_step b_Mo_step 3 { frames := 7, cells := 0, slots := 0, locals := 161 } [.ref (a 0)] σ (s_Mo_step σ) := by
  generalize hF : s_Mo_step σ = F
  refine metV exM_ok (by decide) (Nat.le_of_ble_eq_true rfl) (fun p e s m args below meth c A Q ls X S hl ret => ?_)
  have hq := hF.symm
  obtain ⟨hx, hb, hml, hown, hts, hK, hA, hE, hlk, hEo⟩ := id X
  have hl : lv_has ls 3 [(0, .ref (a 0))] := hl
  have B_Mo_step_40 : ∀ (σ : nS) (H : Heap) (locs : List Loc) (ls : Array Slot), (o_Mo_step_40 σ) → lv_has ls 3 [(0, .ref (a 0))] → St D (wM cI cZ a) A s σ H locs → F = s_Mo_step_40 σ → W p l e ({ frames := 7, cells := 0, slots := 0, locals := 161 } : Room) s m args below meth c H locs 0 0 Q (F0 m 40 ls []) := by
    intro σ H locs ls hok hl S hq
    refine lv_aload_n hx hb d_Mo_step_40 rfl (lv_at hl 0 rfl) ?_
    refine callVIp X S hl (c_Mo_due _) v_Mo_135 0 6 ⟨rfl, rfl⟩ (rk_dec (by decide)) rfl rfl (Nat.le_of_ble_eq_true rfl) d_Mo_step_41 (fun H locs S => ?_)
    refine lv_istore_n hx hb d_Mo_step_44 rfl hl (by decide) rfl (fun ls hl => ?_)
    refine lv_iload_n hx hb d_Mo_step_45 rfl (lv_at hl 0 rfl) ?_
    refine lv_if_le (tgt := 55) hx hb d_Mo_step_46 rfl (fun h46 => ?_) (fun h46 => ?_)
    · have hq := hq.trans (if_pos h46)
      have hok := ok_pos h46 hok
      refine lv_aload_n hx hb d_Mo_step_55 rfl (lv_at hl 1 rfl) ?_
      obtain ⟨g1, hok⟩ := hok
      refine callVI X S hl (c_Mo_fetched _ g1) v_Mo_212 0 6 ⟨rfl, rfl⟩ (rk_dec (by decide)) rfl rfl (Nat.le_of_ble_eq_true rfl) d_Mo_step_56 (fun r1 σ1 H locs e1 S => ?_)
      have hq := hq.trans (ap2_eq e1)
      have hok := ok_ap2 e1 hok
      refine lv_istore_n hx hb d_Mo_step_59 rfl hl (by decide) rfl (fun ls hl => ?_)
      refine lv_iload_n hx hb d_Mo_step_60 rfl (lv_at hl 0 rfl) ?_
      refine lv_if_le (tgt := 69) hx hb d_Mo_step_61 rfl (fun h61 => ?_) (fun h61 => ?_)
      · have hq := hq.trans (if_pos h61)
        have hok := ok_pos h61 hok
        exact ret _ _ _ _ _ S hq d_Mo_step_69
      · have hq := hq.trans (if_neg h61)
        have hok := ok_neg h61 hok
        refine lv_aload_n hx hb d_Mo_step_64 rfl (lv_at hl 2 rfl) ?_
        refine lv_iload_n hx hb d_Mo_step_65 rfl (lv_at hl 0 rfl) ?_
        obtain ⟨g2, hok⟩ := hok
        refine callVV X S hl (c_Mo_fault r1 _ g2) v_Mo_215 0 6 ⟨rfl, rfl⟩ (rk_dec (by decide)) rfl rfl (Nat.le_of_ble_eq_true rfl) d_Mo_step_66 (fun σ2 H locs e2 S => ?_)
        have hq := hq.trans (ap1_eq e2)
        have hok := ok_ap1 e2 hok
        exact ret _ _ _ _ _ S hq d_Mo_step_69
    · have hq := hq.trans (if_neg h46)
      have hok := ok_neg h46 hok
      refine lv_aload_n hx hb d_Mo_step_49 rfl (lv_at hl 1 rfl) ?_
      refine lv_iload_n hx hb d_Mo_step_50 rfl (lv_at hl 0 rfl) ?_
      obtain ⟨g3, hok⟩ := hok
      refine callVV X S hl (c_Mo_take (s_Mo_due σ) _ (mdue_in _) g3) v_Mo_209 0 6 ⟨rfl, rfl⟩ (rk_dec (by decide)) rfl rfl (Nat.le_of_ble_eq_true rfl) d_Mo_step_51 (fun σ1 H locs e1 S => ?_)
      have hq := hq.trans (ap1_eq e1)
      have hok := ok_ap1 e1 hok
      exact ret _ _ _ _ _ S hq d_Mo_step_54
  refine lv_aload_n hx hb d_Mo_step_0 rfl (lv_at hl 0 rfl) ?_
  refine g_Mo_203 hx hb hts hown hK S.1 d_Mo_step_1 ?_
  refine lv_if_eq (tgt := 40) hx hb d_Mo_step_4 rfl (fun h4 => ?_) (fun h4 => ?_)
  · have hq := hq.trans (if_pos h4)
    have hok := ok_pos h4 hok
    exact B_Mo_step_40 _ _ _ _ hok (lv_sub hl [0] rfl) S hq
  · have hq := hq.trans (if_neg h4)
    have hok := ok_neg h4 hok
    refine lv_aload_n hx hb d_Mo_step_7 rfl (lv_at hl 0 rfl) ?_
    refine lv_dup hx hb d_Mo_step_8 rfl ?_
    refine g_Mo_206 hx hb hts hown hK S.1 d_Mo_step_9 ?_
    refine lv_iconst (v := 1) hx hb d_Mo_step_12 (by decide) ?_
    refine lv_isub hx hb d_Mo_step_13 ?_
    refine p_Mo_206 hx hb hts hown hK S d_Mo_step_14 (fun H locs S => ?_)
    refine lv_aload_n hx hb d_Mo_step_17 rfl (lv_at hl 0 rfl) ?_
    refine g_Mo_206 hx hb hts hown hK S.1 d_Mo_step_18 ?_
    refine lv_if_ne (tgt := 40) hx hb d_Mo_step_21 rfl (fun h21 => ?_) (fun h21 => ?_)
    · have hq := hq.trans (if_neg h21)
      have hok := ok_neg h21 hok
      exact B_Mo_step_40 _ _ _ _ hok (lv_sub hl [0] rfl) S hq
    · have hq := hq.trans (if_pos h21)
      have hok := ok_pos h21 hok
      refine lv_aload_n hx hb d_Mo_step_24 rfl (lv_at hl 0 rfl) ?_
      refine lv_aload_n hx hb d_Mo_step_25 rfl (lv_at hl 0 rfl) ?_
      refine g_Mo_203 hx hb hts hown hK S.1 d_Mo_step_26 ?_
      refine p_Mo_206 hx hb hts hown hK S d_Mo_step_29 (fun H locs S => ?_)
      refine lv_aload_n hx hb d_Mo_step_32 rfl (lv_at hl 0 rfl) ?_
      refine g_Mo_23 hx hb hts hown hK S.1 d_Mo_step_33 ?_
      refine lv_bipush (v := 9) hx hb d_Mo_step_36 (by decide) ?_
      refine lv_iconst (v := 1) hx hb d_Mo_step_38 (by decide) ?_
      refine st_M_5 (k := 9) (b := true) hx hb hK S (vin_dec (by decide)) (by decide) d_Mo_step_39 (fun H locs S => ?_)
      exact B_Mo_step_40 _ _ _ _ hok (lv_sub hl [0] rfl) S hq
set_option maxHeartbeats 4000000 in
set_option maxRecDepth 100000 in
theorem c_Mo_set (v1 : Int32) (v2 : Int32) (σ : nS) (hok : o_Mo_set v1 v2 σ) : CtV l D cI cZ (wM cI cZ a) exM y_Mo_set b_Mo_set 3 { frames := 1, cells := 0, slots := 0, locals := 23 } [.ref (a 0), .int v1, .int v2] σ (s_Mo_set v1 v2 σ) := by
  generalize hF : s_Mo_set v1 v2 σ = F
  refine metV exM_ok (by decide) (Nat.le_of_ble_eq_true rfl) (fun p e s m args below meth c A Q ls X S hl ret => ?_)
  have hq := hF.symm
  obtain ⟨hx, hb, hml, hown, hts, hK, hA, hE, hlk, hEo⟩ := id X
  have hl : lv_has ls 3 [(0, .ref (a 0)), (1, .int v1), (2, .int v2)] := hl
  have B_Mo_set_13 : ∀ (v1 : Int32) (v2 : Int32) (k1 : Bool) (σ : nS) (H : Heap) (locs : List Loc) (ls : Array Slot), (o_Mo_set_13 v1 v2 k1 σ) → lv_has ls 3 [(0, .ref (a 0)), (1, .int v1), (2, .int v2)] → St D (wM cI cZ a) A s σ H locs → F = s_Mo_set_13 v1 v2 k1 σ → W p l e ({ frames := 1, cells := 0, slots := 0, locals := 23 } : Room) s m args below meth c H locs 0 0 Q (F0 m 13 ls [.int (bI k1), .ref (a 0)]) := by
    intro v1 v2 k1 σ H locs ls hok hl S hq
    refine callVZ X S hl (c_Mo_fails k1 _) v_Mo_218 0 6 ⟨rfl, rfl⟩ (rk_dec (by decide)) rfl rfl (Nat.le_of_ble_eq_true rfl) d_Mo_set_13 (fun r1 σ1 H locs e1 S => ?_)
    have hq := hq.trans (ap2_eq e1)
    have hok := ok_ap2 e1 hok
    refine r_ifneZ (tgt := 25) hx hb d_Mo_set_16 rfl (fun h16 => ?_) (fun h16 => ?_)
    · have hq := hq.trans (if_pos h16)
      have hok := ok_pos h16 hok
      exact ret _ _ _ _ _ S hq d_Mo_set_25
    · have hq := hq.trans (if_neg h16)
      have hok := ok_neg h16 hok
      refine lv_aload_n hx hb d_Mo_set_19 rfl (lv_at hl 0 rfl) ?_
      refine lv_iload_n hx hb d_Mo_set_20 rfl (lv_at hl 1 rfl) ?_
      refine lv_iload_n hx hb d_Mo_set_21 rfl (lv_at hl 2 rfl) ?_
      obtain ⟨g1, hok⟩ := hok
      refine callVV X S hl (c_Mo_store v1 v2 _ g1) v_Mo_102 0 6 ⟨rfl, rfl⟩ (rk_dec (by decide)) rfl rfl (Nat.le_of_ble_eq_true rfl) d_Mo_set_22 (fun σ2 H locs e2 S => ?_)
      have hq := hq.trans (ap1_eq e2)
      have hok := ok_ap1 e2 hok
      exact ret _ _ _ _ _ S hq d_Mo_set_25
  refine lv_aload_n hx hb d_Mo_set_0 rfl (lv_at hl 0 rfl) ?_
  refine lv_iload_n hx hb d_Mo_set_1 rfl (lv_at hl 1 rfl) ?_
  refine callSZp X S hl (c_Mo_isWord v1 _) v_Mo_45 (rk_dec (by decide)) rfl rfl (Nat.le_of_ble_eq_true rfl) d_Mo_set_2 (fun H locs S => ?_)
  refine r_ifneZ (tgt := 12) hx hb d_Mo_set_5 rfl (fun h5 => ?_) (fun h5 => ?_)
  · have hq := hq.trans (if_pos h5)
    have hok := ok_pos h5 hok
    refine lv_iconst (v := 0) hx hb d_Mo_set_12 (by decide) ?_
    exact B_Mo_set_13 _ _ false _ _ _ _ hok (lv_sub hl [0, 1, 2] rfl) S hq
  · have hq := hq.trans (if_neg h5)
    have hok := ok_neg h5 hok
    refine lv_iconst (v := 1) hx hb d_Mo_set_8 (by decide) ?_
    refine lv_goto (tgt := 13) hx hb d_Mo_set_9 rfl ?_
    exact B_Mo_set_13 _ _ true _ _ _ _ hok (lv_sub hl [0, 1, 2] rfl) S hq
set_option maxHeartbeats 4000000 in
set_option maxRecDepth 100000 in
theorem c_Mo_word (v1 : Int32) (σ : nS) (hok : o_Mo_word v1 σ) : CtI l D cI cZ (wM cI cZ a) exM y_Mo_word b_Mo_word 2 { frames := 1, cells := 0, slots := 0, locals := 21 } [.ref (a 0), .int v1] σ (s_Mo_word v1 σ) := by
  generalize hF : s_Mo_word v1 σ = F
  refine metI exM_ok (by decide) (Nat.le_of_ble_eq_true rfl) (fun p e s m args below meth c A Q ls X S hl ret => ?_)
  have hq := hF.symm
  obtain ⟨hx, hb, hml, hown, hts, hK, hA, hE, hlk, hEo⟩ := id X
  have hl : lv_has ls 2 [(0, .ref (a 0)), (1, .int v1)] := hl
  have B_Mo_word_13 : ∀ (v1 : Int32) (k1 : Bool) (σ : nS) (H : Heap) (locs : List Loc) (ls : Array Slot), (o_Mo_word_13 v1 k1 σ) → lv_has ls 2 [(0, .ref (a 0)), (1, .int v1)] → St D (wM cI cZ a) A s σ H locs → F = s_Mo_word_13 v1 k1 σ → W p l e ({ frames := 1, cells := 0, slots := 0, locals := 21 } : Room) s m args below meth c H locs 0 0 Q (F0 m 13 ls [.int (bI k1), .ref (a 0)]) := by
    intro v1 k1 σ H locs ls hok hl S hq
    refine callVZ X S hl (c_Mo_fails k1 _) v_Mo_218 0 6 ⟨rfl, rfl⟩ (rk_dec (by decide)) rfl rfl (Nat.le_of_ble_eq_true rfl) d_Mo_word_13 (fun r1 σ1 H locs e1 S => ?_)
    have hq := hq.trans (ap2_eq e1)
    have hok := ok_ap2 e1 hok
    refine r_ifeqZ (tgt := 23) hx hb d_Mo_word_16 rfl (fun h16 => ?_) (fun h16 => ?_)
    · have hq := hq.trans (if_neg h16)
      have hok := ok_neg h16 hok
      refine lv_aload_n hx hb d_Mo_word_23 rfl (lv_at hl 0 rfl) ?_
      refine lv_iload_n hx hb d_Mo_word_24 rfl (lv_at hl 1 rfl) ?_
      obtain ⟨g1, hok⟩ := hok
      refine callVIp X S hl (c_Mo_load v1 _ g1) v_Mo_77 0 6 ⟨rfl, rfl⟩ (rk_dec (by decide)) rfl rfl (Nat.le_of_ble_eq_true rfl) d_Mo_word_25 (fun H locs S => ?_)
      exact ret _ _ _ _ _ _ S hq d_Mo_word_28
    · have hq := hq.trans (if_pos h16)
      have hok := ok_pos h16 hok
      refine lv_iconst (v := 0) hx hb d_Mo_word_19 (by decide) ?_
      refine lv_goto (tgt := 28) hx hb d_Mo_word_20 rfl ?_
      exact ret _ _ _ _ _ _ S hq d_Mo_word_28
  refine lv_aload_n hx hb d_Mo_word_0 rfl (lv_at hl 0 rfl) ?_
  refine lv_iload_n hx hb d_Mo_word_1 rfl (lv_at hl 1 rfl) ?_
  refine callSZp X S hl (c_Mo_isWord v1 _) v_Mo_45 (rk_dec (by decide)) rfl rfl (Nat.le_of_ble_eq_true rfl) d_Mo_word_2 (fun H locs S => ?_)
  refine r_ifneZ (tgt := 12) hx hb d_Mo_word_5 rfl (fun h5 => ?_) (fun h5 => ?_)
  · have hq := hq.trans (if_pos h5)
    have hok := ok_pos h5 hok
    refine lv_iconst (v := 0) hx hb d_Mo_word_12 (by decide) ?_
    exact B_Mo_word_13 _ false _ _ _ _ hok (lv_sub hl [0, 1] rfl) S hq
  · have hq := hq.trans (if_neg h5)
    have hok := ok_neg h5 hok
    refine lv_iconst (v := 1) hx hb d_Mo_word_8 (by decide) ?_
    refine lv_goto (tgt := 13) hx hb d_Mo_word_9 rfl ?_
    exact B_Mo_word_13 _ true _ _ _ _ hok (lv_sub hl [0, 1] rfl) S hq
set_option maxHeartbeats 4000000 in
set_option maxRecDepth 100000 in
theorem c_Mo_put (v1 : Int32) (v2 : Int32) (σ : nS) (hok : o_Mo_put v1 v2 σ) : CtV l D cI cZ (wM cI cZ a) exM y_Mo_put b_Mo_put 3 { frames := 1, cells := 0, slots := 0, locals := 21 } [.ref (a 0), .int v1, .int v2] σ (s_Mo_put v1 v2 σ) := by
  generalize hF : s_Mo_put v1 v2 σ = F
  refine metV exM_ok (by decide) (Nat.le_of_ble_eq_true rfl) (fun p e s m args below meth c A Q ls X S hl ret => ?_)
  have hq := hF.symm
  obtain ⟨hx, hb, hml, hown, hts, hK, hA, hE, hlk, hEo⟩ := id X
  have hl : lv_has ls 3 [(0, .ref (a 0)), (1, .int v1), (2, .int v2)] := hl
  have B_Mo_put_114 : ∀ (v1 : Int32) (v2 : Int32) (σ : nS) (H : Heap) (locs : List Loc) (ls : Array Slot), (o_Mo_put_114 v1 v2 σ) → lv_has ls 3 [(0, .ref (a 0)), (1, .int v1), (2, .int v2)] → St D (wM cI cZ a) A s σ H locs → F = s_Mo_put_114 v1 v2 σ → W p l e ({ frames := 1, cells := 0, slots := 0, locals := 21 } : Room) s m args below meth c H locs 0 0 Q (F0 m 114 ls []) := by
    intro v1 v2 σ H locs ls hok hl S hq
    refine lv_iload_n hx hb d_Mo_put_114 rfl (lv_at hl 1 rfl) ?_
    refine lv_bipush (v := 20) hx hb d_Mo_put_115 (by decide) ?_
    refine lv_icmp_ne (tgt := 137) hx hb d_Mo_put_117 rfl (fun h117 => ?_) (fun h117 => ?_)
    · have hq := hq.trans (if_neg h117)
      have hok := ok_neg h117 hok
      exact ret _ _ _ _ _ S hq d_Mo_put_137
    · have hq := hq.trans (if_pos h117)
      have hok := ok_pos h117 hok
      refine lv_aload_n hx hb d_Mo_put_120 rfl (lv_at hl 0 rfl) ?_
      refine lv_iload_n hx hb d_Mo_put_121 rfl (lv_at hl 2 rfl) ?_
      refine lv_sipush (v := 255) hx hb d_Mo_put_122 (by decide) ?_
      refine lv_iand hx hb d_Mo_put_125 ?_
      refine p_Mo_203 hx hb hts hown hK S d_Mo_put_126 (fun H locs S => ?_)
      refine lv_aload_n hx hb d_Mo_put_129 rfl (lv_at hl 0 rfl) ?_
      refine lv_aload_n hx hb d_Mo_put_130 rfl (lv_at hl 0 rfl) ?_
      refine g_Mo_203 hx hb hts hown hK S.1 d_Mo_put_131 ?_
      refine p_Mo_206 hx hb hts hown hK S d_Mo_put_134 (fun H locs S => ?_)
      exact ret _ _ _ _ _ S hq d_Mo_put_137
  have B_Mo_put_101 : ∀ (v1 : Int32) (v2 : Int32) (σ : nS) (H : Heap) (locs : List Loc) (ls : Array Slot), (o_Mo_put_101 v1 v2 σ) → lv_has ls 3 [(0, .ref (a 0)), (1, .int v1), (2, .int v2)] → St D (wM cI cZ a) A s σ H locs → F = s_Mo_put_101 v1 v2 σ → W p l e ({ frames := 1, cells := 0, slots := 0, locals := 21 } : Room) s m args below meth c H locs 0 0 Q (F0 m 101 ls []) := by
    intro v1 v2 σ H locs ls hok hl S hq
    refine lv_iload_n hx hb d_Mo_put_101 rfl (lv_at hl 1 rfl) ?_
    refine lv_bipush (v := 19) hx hb d_Mo_put_102 (by decide) ?_
    refine lv_icmp_ne (tgt := 114) hx hb d_Mo_put_104 rfl (fun h104 => ?_) (fun h104 => ?_)
    · have hq := hq.trans (if_neg h104)
      have hok := ok_neg h104 hok
      exact B_Mo_put_114 _ _ _ _ _ _ hok (lv_sub hl [0, 1, 2] rfl) S hq
    · have hq := hq.trans (if_pos h104)
      have hok := ok_pos h104 hok
      refine lv_aload_n hx hb d_Mo_put_107 rfl (lv_at hl 0 rfl) ?_
      refine lv_iload_n hx hb d_Mo_put_108 rfl (lv_at hl 2 rfl) ?_
      refine lv_iconst (v := 3) hx hb d_Mo_put_109 (by decide) ?_
      refine lv_iand hx hb d_Mo_put_110 ?_
      refine p_Mo_53 hx hb hts hown hK S d_Mo_put_111 (fun H locs S => ?_)
      exact B_Mo_put_114 _ _ _ _ _ _ hok (lv_sub hl [0, 1, 2] rfl) S hq
  have B_Mo_put_87 : ∀ (v1 : Int32) (v2 : Int32) (σ : nS) (H : Heap) (locs : List Loc) (ls : Array Slot), (o_Mo_put_87 v1 v2 σ) → lv_has ls 3 [(0, .ref (a 0)), (1, .int v1), (2, .int v2)] → St D (wM cI cZ a) A s σ H locs → F = s_Mo_put_87 v1 v2 σ → W p l e ({ frames := 1, cells := 0, slots := 0, locals := 21 } : Room) s m args below meth c H locs 0 0 Q (F0 m 87 ls []) := by
    intro v1 v2 σ H locs ls hok hl S hq
    refine lv_iload_n hx hb d_Mo_put_87 rfl (lv_at hl 1 rfl) ?_
    refine lv_bipush (v := 18) hx hb d_Mo_put_88 (by decide) ?_
    refine lv_icmp_ne (tgt := 101) hx hb d_Mo_put_90 rfl (fun h90 => ?_) (fun h90 => ?_)
    · have hq := hq.trans (if_neg h90)
      have hok := ok_neg h90 hok
      exact B_Mo_put_101 _ _ _ _ _ _ hok (lv_sub hl [0, 1, 2] rfl) S hq
    · have hq := hq.trans (if_pos h90)
      have hok := ok_pos h90 hok
      refine lv_aload_n hx hb d_Mo_put_93 rfl (lv_at hl 0 rfl) ?_
      refine lv_iload_n hx hb d_Mo_put_94 rfl (lv_at hl 2 rfl) ?_
      refine lv_bipush (v := 7) hx hb d_Mo_put_95 (by decide) ?_
      refine lv_iand hx hb d_Mo_put_97 ?_
      refine p_Mo_60 hx hb hts hown hK S d_Mo_put_98 (fun H locs S => ?_)
      exact B_Mo_put_101 _ _ _ _ _ _ hok (lv_sub hl [0, 1, 2] rfl) S hq
  have B_Mo_put_84 : ∀ (v1 : Int32) (v2 : Int32) (k1 : Bool) (σ : nS) (H : Heap) (locs : List Loc) (ls : Array Slot), (o_Mo_put_84 v1 v2 k1 σ) → lv_has ls 3 [(0, .ref (a 0)), (1, .int v1), (2, .int v2)] → St D (wM cI cZ a) A s σ H locs → F = s_Mo_put_84 v1 v2 k1 σ → W p l e ({ frames := 1, cells := 0, slots := 0, locals := 21 } : Room) s m args below meth c H locs 0 0 Q (F0 m 84 ls [.int (bI k1), .ref (a 0)]) := by
    intro v1 v2 k1 σ H locs ls hok hl S hq
    refine p_Mo_67 (b := k1) hx hb hts hown hK S d_Mo_put_84 (fun H locs S => ?_)
    exact B_Mo_put_87 _ _ _ _ _ _ hok (lv_sub hl [0, 1, 2] rfl) S hq
  have B_Mo_put_68 : ∀ (v1 : Int32) (v2 : Int32) (σ : nS) (H : Heap) (locs : List Loc) (ls : Array Slot), (o_Mo_put_68 v1 v2 σ) → lv_has ls 3 [(0, .ref (a 0)), (1, .int v1), (2, .int v2)] → St D (wM cI cZ a) A s σ H locs → F = s_Mo_put_68 v1 v2 σ → W p l e ({ frames := 1, cells := 0, slots := 0, locals := 21 } : Room) s m args below meth c H locs 0 0 Q (F0 m 68 ls []) := by
    intro v1 v2 σ H locs ls hok hl S hq
    refine lv_iload_n hx hb d_Mo_put_68 rfl (lv_at hl 1 rfl) ?_
    refine lv_bipush (v := 17) hx hb d_Mo_put_69 (by decide) ?_
    refine lv_icmp_ne (tgt := 87) hx hb d_Mo_put_71 rfl (fun h71 => ?_) (fun h71 => ?_)
    · have hq := hq.trans (if_neg h71)
      have hok := ok_neg h71 hok
      exact B_Mo_put_87 _ _ _ _ _ _ hok (lv_sub hl [0, 1, 2] rfl) S hq
    · have hq := hq.trans (if_pos h71)
      have hok := ok_pos h71 hok
      refine lv_aload_n hx hb d_Mo_put_74 rfl (lv_at hl 0 rfl) ?_
      refine lv_iload_n hx hb d_Mo_put_75 rfl (lv_at hl 2 rfl) ?_
      refine lv_if_eq (tgt := 83) hx hb d_Mo_put_76 rfl (fun h76 => ?_) (fun h76 => ?_)
      · have hq := hq.trans (if_pos h76)
        have hok := ok_pos h76 hok
        refine lv_iconst (v := 0) hx hb d_Mo_put_83 (by decide) ?_
        exact B_Mo_put_84 _ _ false _ _ _ _ hok (lv_sub hl [0, 1, 2] rfl) S hq
      · have hq := hq.trans (if_neg h76)
        have hok := ok_neg h76 hok
        refine lv_iconst (v := 1) hx hb d_Mo_put_79 (by decide) ?_
        refine lv_goto (tgt := 84) hx hb d_Mo_put_80 rfl ?_
        exact B_Mo_put_84 _ _ true _ _ _ _ hok (lv_sub hl [0, 1, 2] rfl) S hq
  have B_Mo_put_65 : ∀ (v1 : Int32) (v2 : Int32) (k1 : Bool) (σ : nS) (H : Heap) (locs : List Loc) (ls : Array Slot), (o_Mo_put_65 v1 v2 k1 σ) → lv_has ls 3 [(0, .ref (a 0)), (1, .int v1), (2, .int v2)] → St D (wM cI cZ a) A s σ H locs → F = s_Mo_put_65 v1 v2 k1 σ → W p l e ({ frames := 1, cells := 0, slots := 0, locals := 21 } : Room) s m args below meth c H locs 0 0 Q (F0 m 65 ls [.int (bI k1), .ref (a 0)]) := by
    intro v1 v2 k1 σ H locs ls hok hl S hq
    refine p_Mo_63 (b := k1) hx hb hts hown hK S d_Mo_put_65 (fun H locs S => ?_)
    exact B_Mo_put_68 _ _ _ _ _ _ hok (lv_sub hl [0, 1, 2] rfl) S hq
  have B_Mo_put_49 : ∀ (v1 : Int32) (v2 : Int32) (σ : nS) (H : Heap) (locs : List Loc) (ls : Array Slot), (o_Mo_put_49 v1 v2 σ) → lv_has ls 3 [(0, .ref (a 0)), (1, .int v1), (2, .int v2)] → St D (wM cI cZ a) A s σ H locs → F = s_Mo_put_49 v1 v2 σ → W p l e ({ frames := 1, cells := 0, slots := 0, locals := 21 } : Room) s m args below meth c H locs 0 0 Q (F0 m 49 ls []) := by
    intro v1 v2 σ H locs ls hok hl S hq
    refine lv_iload_n hx hb d_Mo_put_49 rfl (lv_at hl 1 rfl) ?_
    refine lv_bipush (v := 16) hx hb d_Mo_put_50 (by decide) ?_
    refine lv_icmp_ne (tgt := 68) hx hb d_Mo_put_52 rfl (fun h52 => ?_) (fun h52 => ?_)
    · have hq := hq.trans (if_neg h52)
      have hok := ok_neg h52 hok
      exact B_Mo_put_68 _ _ _ _ _ _ hok (lv_sub hl [0, 1, 2] rfl) S hq
    · have hq := hq.trans (if_pos h52)
      have hok := ok_pos h52 hok
      refine lv_aload_n hx hb d_Mo_put_55 rfl (lv_at hl 0 rfl) ?_
      refine lv_iload_n hx hb d_Mo_put_56 rfl (lv_at hl 2 rfl) ?_
      refine lv_if_eq (tgt := 64) hx hb d_Mo_put_57 rfl (fun h57 => ?_) (fun h57 => ?_)
      · have hq := hq.trans (if_pos h57)
        have hok := ok_pos h57 hok
        refine lv_iconst (v := 0) hx hb d_Mo_put_64 (by decide) ?_
        exact B_Mo_put_65 _ _ false _ _ _ _ hok (lv_sub hl [0, 1, 2] rfl) S hq
      · have hq := hq.trans (if_neg h57)
        have hok := ok_neg h57 hok
        refine lv_iconst (v := 1) hx hb d_Mo_put_60 (by decide) ?_
        refine lv_goto (tgt := 65) hx hb d_Mo_put_61 rfl ?_
        exact B_Mo_put_65 _ _ true _ _ _ _ hok (lv_sub hl [0, 1, 2] rfl) S hq
  have B_Mo_put_48 : ∀ (v1 : Int32) (v2 : Int32) (k1 : Int32) (k2 : Int32) (σ : nS) (H : Heap) (locs : List Loc) (ls : Array Slot), (o_Mo_put_48 v1 v2 k1 k2 σ) → lv_has ls 3 [(0, .ref (a 0)), (1, .int v1), (2, .int v2)] → St D (wM cI cZ a) A s σ H locs → F = s_Mo_put_48 v1 v2 k1 k2 σ → W p l e ({ frames := 1, cells := 0, slots := 0, locals := 21 } : Room) s m args below meth c H locs 0 0 Q (F0 m 48 ls [.int k2, .int k1, .ref (a 2)]) := by
    intro v1 v2 k1 k2 σ H locs ls hok hl S hq
    obtain ⟨g1, hok⟩ := hok
    refine st_M_2 (k := (k1).toNatClampNeg) hx hb hK S g1 rfl d_Mo_put_48 (fun H locs S => ?_)
    exact B_Mo_put_49 _ _ _ _ _ _ hok (lv_sub hl [0, 1, 2] rfl) S hq
  have B_Mo_put_16 : ∀ (v1 : Int32) (v2 : Int32) (k1 : Bool) (σ : nS) (H : Heap) (locs : List Loc) (ls : Array Slot), (o_Mo_put_16 v1 v2 k1 σ) → lv_has ls 3 [(0, .ref (a 0)), (1, .int v1), (2, .int v2)] → St D (wM cI cZ a) A s σ H locs → F = s_Mo_put_16 v1 v2 k1 σ → W p l e ({ frames := 1, cells := 0, slots := 0, locals := 21 } : Room) s m args below meth c H locs 0 0 Q (F0 m 16 ls [.int (bI k1), .ref (a 0)]) := by
    intro v1 v2 k1 σ H locs ls hok hl S hq
    refine callVZ X S hl (c_Mo_fails k1 _) v_Mo_218 0 6 ⟨rfl, rfl⟩ (rk_dec (by decide)) rfl rfl (Nat.le_of_ble_eq_true rfl) d_Mo_put_16 (fun r1 σ1 H locs e1 S => ?_)
    have hq := hq.trans (ap2_eq e1)
    have hok := ok_ap2 e1 hok
    refine r_ifeqZ (tgt := 23) hx hb d_Mo_put_19 rfl (fun h19 => ?_) (fun h19 => ?_)
    · have hq := hq.trans (if_neg h19)
      have hok := ok_neg h19 hok
      refine lv_iload_n hx hb d_Mo_put_23 rfl (lv_at hl 1 rfl) ?_
      refine lv_bipush (v := 16) hx hb d_Mo_put_24 (by decide) ?_
      refine lv_icmp_ge (tgt := 49) hx hb d_Mo_put_26 rfl (fun h26 => ?_) (fun h26 => ?_)
      · have hq := hq.trans (if_pos h26)
        have hok := ok_pos h26 hok
        exact B_Mo_put_49 _ _ _ _ _ _ hok (lv_sub hl [0, 1, 2] rfl) S hq
      · have hq := hq.trans (if_neg h26)
        have hok := ok_neg h26 hok
        refine lv_aload_n hx hb d_Mo_put_29 rfl (lv_at hl 0 rfl) ?_
        refine g_Mo_13 hx hb hts hown hK S.1 d_Mo_put_30 ?_
        refine lv_iload_n hx hb d_Mo_put_33 rfl (lv_at hl 1 rfl) ?_
        refine lv_iload_n hx hb d_Mo_put_34 rfl (lv_at hl 1 rfl) ?_
        refine lv_bipush (v := 15) hx hb d_Mo_put_35 (by decide) ?_
        refine lv_icmp_ne (tgt := 47) hx hb d_Mo_put_37 rfl (fun h37 => ?_) (fun h37 => ?_)
        · have hq := hq.trans (if_neg h37)
          have hok := ok_neg h37 hok
          refine lv_iload_n hx hb d_Mo_put_47 rfl (lv_at hl 2 rfl) ?_
          exact B_Mo_put_48 _ _ _ _ _ _ _ _ hok (lv_sub hl [0, 1, 2] rfl) S hq
        · have hq := hq.trans (if_pos h37)
          have hok := ok_pos h37 hok
          refine lv_iload_n hx hb d_Mo_put_40 rfl (lv_at hl 2 rfl) ?_
          refine lv_bipush (v := -2) hx hb d_Mo_put_41 (by decide) ?_
          refine lv_iand hx hb d_Mo_put_43 ?_
          refine lv_goto (tgt := 48) hx hb d_Mo_put_44 rfl ?_
          exact B_Mo_put_48 _ _ _ _ _ _ _ _ hok (lv_sub hl [0, 1, 2] rfl) S hq
    · have hq := hq.trans (if_pos h19)
      have hok := ok_pos h19 hok
      exact ret _ _ _ _ _ S hq d_Mo_put_22
  have B_Mo_put_11 : ∀ (v1 : Int32) (v2 : Int32) (σ : nS) (H : Heap) (locs : List Loc) (ls : Array Slot), (o_Mo_put_11 v1 v2 σ) → lv_has ls 3 [(0, .ref (a 0)), (1, .int v1), (2, .int v2)] → St D (wM cI cZ a) A s σ H locs → F = s_Mo_put_11 v1 v2 σ → W p l e ({ frames := 1, cells := 0, slots := 0, locals := 21 } : Room) s m args below meth c H locs 0 0 Q (F0 m 11 ls [.ref (a 0)]) := by
    intro v1 v2 σ H locs ls hok hl S hq
    refine lv_iconst (v := 1) hx hb d_Mo_put_11 (by decide) ?_
    refine lv_goto (tgt := 16) hx hb d_Mo_put_12 rfl ?_
    exact B_Mo_put_16 _ _ true _ _ _ _ hok (lv_sub hl [0, 1, 2] rfl) S hq
  refine lv_aload_n hx hb d_Mo_put_0 rfl (lv_at hl 0 rfl) ?_
  refine lv_iload_n hx hb d_Mo_put_1 rfl (lv_at hl 1 rfl) ?_
  refine lv_if_lt (tgt := 11) hx hb d_Mo_put_2 rfl (fun h2 => ?_) (fun h2 => ?_)
  · have hq := hq.trans (if_pos h2)
    have hok := ok_pos h2 hok
    exact B_Mo_put_11 _ _ _ _ _ _ hok (lv_sub hl [0, 1, 2] rfl) S hq
  · have hq := hq.trans (if_neg h2)
    have hok := ok_neg h2 hok
    refine lv_iload_n hx hb d_Mo_put_5 rfl (lv_at hl 1 rfl) ?_
    refine lv_bipush (v := 20) hx hb d_Mo_put_6 (by decide) ?_
    refine lv_icmp_le (tgt := 15) hx hb d_Mo_put_8 rfl (fun h8 => ?_) (fun h8 => ?_)
    · have hq := hq.trans (if_pos h8)
      have hok := ok_pos h8 hok
      refine lv_iconst (v := 0) hx hb d_Mo_put_15 (by decide) ?_
      exact B_Mo_put_16 _ _ false _ _ _ _ hok (lv_sub hl [0, 1, 2] rfl) S hq
    · have hq := hq.trans (if_neg h8)
      have hok := ok_neg h8 hok
      exact B_Mo_put_11 _ _ _ _ _ _ hok (lv_sub hl [0, 1, 2] rfl) S hq
set_option maxHeartbeats 4000000 in
set_option maxRecDepth 100000 in
theorem c_Mo_register (v1 : Int32) (σ : nS) (hok : o_Mo_register v1 σ) : CtI l D cI cZ (wM cI cZ a) exM y_Mo_register b_Mo_register 2 { frames := 1, cells := 0, slots := 0, locals := 21 } [.ref (a 0), .int v1] σ (s_Mo_register v1 σ) := by
  generalize hF : s_Mo_register v1 σ = F
  refine metI exM_ok (by decide) (Nat.le_of_ble_eq_true rfl) (fun p e s m args below meth c A Q ls X S hl ret => ?_)
  have hq := hF.symm
  obtain ⟨hx, hb, hml, hown, hts, hK, hA, hE, hlk, hEo⟩ := id X
  have hl : lv_has ls 2 [(0, .ref (a 0)), (1, .int v1)] := hl
  have B_Mo_register_70 : ∀ (σ : nS) (H : Heap) (locs : List Loc) (ls : Array Slot), (o_Mo_register_70 σ) → lv_has ls 2 [] → St D (wM cI cZ a) A s σ H locs → F = s_Mo_register_70 σ → W p l e ({ frames := 1, cells := 0, slots := 0, locals := 21 } : Room) s m args below meth c H locs 0 0 Q (F0 m 70 ls []) := by
    intro σ H locs ls hok hl S hq
    refine lv_iconst (v := 0) hx hb d_Mo_register_70 (by decide) ?_
    exact ret _ _ _ _ _ _ S hq d_Mo_register_71
  have B_Mo_register_66 : ∀ (σ : nS) (H : Heap) (locs : List Loc) (ls : Array Slot), (o_Mo_register_66 σ) → lv_has ls 2 [] → St D (wM cI cZ a) A s σ H locs → F = s_Mo_register_66 σ → W p l e ({ frames := 1, cells := 0, slots := 0, locals := 21 } : Room) s m args below meth c H locs 0 0 Q (F0 m 66 ls []) := by
    intro σ H locs ls hok hl S hq
    refine lv_iconst (v := 1) hx hb d_Mo_register_66 (by decide) ?_
    refine lv_goto (tgt := 71) hx hb d_Mo_register_67 rfl ?_
    exact ret _ _ _ _ _ _ S hq d_Mo_register_71
  have B_Mo_register_16 : ∀ (v1 : Int32) (k1 : Bool) (σ : nS) (H : Heap) (locs : List Loc) (ls : Array Slot), (o_Mo_register_16 v1 k1 σ) → lv_has ls 2 [(0, .ref (a 0)), (1, .int v1)] → St D (wM cI cZ a) A s σ H locs → F = s_Mo_register_16 v1 k1 σ → W p l e ({ frames := 1, cells := 0, slots := 0, locals := 21 } : Room) s m args below meth c H locs 0 0 Q (F0 m 16 ls [.int (bI k1), .ref (a 0)]) := by
    intro v1 k1 σ H locs ls hok hl S hq
    refine callVZ X S hl (c_Mo_fails k1 _) v_Mo_218 0 6 ⟨rfl, rfl⟩ (rk_dec (by decide)) rfl rfl (Nat.le_of_ble_eq_true rfl) d_Mo_register_16 (fun r1 σ1 H locs e1 S => ?_)
    have hq := hq.trans (ap2_eq e1)
    have hok := ok_ap2 e1 hok
    refine r_ifeqZ (tgt := 24) hx hb d_Mo_register_19 rfl (fun h19 => ?_) (fun h19 => ?_)
    · have hq := hq.trans (if_neg h19)
      have hok := ok_neg h19 hok
      refine lv_iload_n hx hb d_Mo_register_24 rfl (lv_at hl 1 rfl) ?_
      refine lv_bipush (v := 16) hx hb d_Mo_register_25 (by decide) ?_
      refine lv_icmp_ge (tgt := 37) hx hb d_Mo_register_27 rfl (fun h27 => ?_) (fun h27 => ?_)
      · have hq := hq.trans (if_pos h27)
        have hok := ok_pos h27 hok
        refine lv_iload_n hx hb d_Mo_register_37 rfl (lv_at hl 1 rfl) ?_
        refine lv_bipush (v := 18) hx hb d_Mo_register_38 (by decide) ?_
        refine lv_icmp_ge (tgt := 72) hx hb d_Mo_register_40 rfl (fun h40 => ?_) (fun h40 => ?_)
        · have hq := hq.trans (if_pos h40)
          have hok := ok_pos h40 hok
          refine lv_iload_n hx hb d_Mo_register_72 rfl (lv_at hl 1 rfl) ?_
          refine lv_bipush (v := 18) hx hb d_Mo_register_73 (by decide) ?_
          refine lv_icmp_ne (tgt := 85) hx hb d_Mo_register_75 rfl (fun h75 => ?_) (fun h75 => ?_)
          · have hq := hq.trans (if_neg h75)
            have hok := ok_neg h75 hok
            refine lv_iload_n hx hb d_Mo_register_85 rfl (lv_at hl 1 rfl) ?_
            refine lv_bipush (v := 19) hx hb d_Mo_register_86 (by decide) ?_
            refine lv_icmp_ne (tgt := 98) hx hb d_Mo_register_88 rfl (fun h88 => ?_) (fun h88 => ?_)
            · have hq := hq.trans (if_neg h88)
              have hok := ok_neg h88 hok
              refine lv_aload_n hx hb d_Mo_register_98 rfl (lv_at hl 0 rfl) ?_
              refine g_Mo_203 hx hb hts hown hK S.1 d_Mo_register_99 ?_
              exact ret _ _ _ _ _ _ S hq d_Mo_register_102
            · have hq := hq.trans (if_pos h88)
              have hok := ok_pos h88 hok
              refine lv_aload_n hx hb d_Mo_register_91 rfl (lv_at hl 0 rfl) ?_
              refine g_Mo_53 hx hb hts hown hK S.1 d_Mo_register_92 ?_
              refine lv_goto (tgt := 102) hx hb d_Mo_register_95 rfl ?_
              exact ret _ _ _ _ _ _ S hq d_Mo_register_102
          · have hq := hq.trans (if_pos h75)
            have hok := ok_pos h75 hok
            refine lv_aload_n hx hb d_Mo_register_78 rfl (lv_at hl 0 rfl) ?_
            refine g_Mo_60 hx hb hts hown hK S.1 d_Mo_register_79 ?_
            refine lv_goto (tgt := 102) hx hb d_Mo_register_82 rfl ?_
            exact ret _ _ _ _ _ _ S hq d_Mo_register_102
        · have hq := hq.trans (if_neg h40)
          have hok := ok_neg h40 hok
          refine lv_iload_n hx hb d_Mo_register_43 rfl (lv_at hl 1 rfl) ?_
          refine lv_bipush (v := 16) hx hb d_Mo_register_44 (by decide) ?_
          refine lv_icmp_ne (tgt := 59) hx hb d_Mo_register_46 rfl (fun h46 => ?_) (fun h46 => ?_)
          · have hq := hq.trans (if_neg h46)
            have hok := ok_neg h46 hok
            refine lv_aload_n hx hb d_Mo_register_59 rfl (lv_at hl 0 rfl) ?_
            refine g_Mo_67 hx hb hts hown hK S.1 d_Mo_register_60 ?_
            refine lv_if_eq (tgt := 70) hx hb d_Mo_register_63 rfl (fun h63 => ?_) (fun h63 => ?_)
            · have hq := hq.trans (if_pos h63)
              have hok := ok_pos h63 hok
              exact B_Mo_register_70 _ _ _ _ hok (lv_sub hl [] rfl) S hq
            · have hq := hq.trans (if_neg h63)
              have hok := ok_neg h63 hok
              exact B_Mo_register_66 _ _ _ _ hok (lv_sub hl [] rfl) S hq
          · have hq := hq.trans (if_pos h46)
            have hok := ok_pos h46 hok
            refine lv_aload_n hx hb d_Mo_register_49 rfl (lv_at hl 0 rfl) ?_
            refine g_Mo_63 hx hb hts hown hK S.1 d_Mo_register_50 ?_
            refine lv_if_eq (tgt := 70) hx hb d_Mo_register_53 rfl (fun h53 => ?_) (fun h53 => ?_)
            · have hq := hq.trans (if_pos h53)
              have hok := ok_pos h53 hok
              exact B_Mo_register_70 _ _ _ _ hok (lv_sub hl [] rfl) S hq
            · have hq := hq.trans (if_neg h53)
              have hok := ok_neg h53 hok
              refine lv_goto (tgt := 66) hx hb d_Mo_register_56 rfl ?_
              exact B_Mo_register_66 _ _ _ _ hok (lv_sub hl [] rfl) S hq
      · have hq := hq.trans (if_neg h27)
        have hok := ok_neg h27 hok
        refine lv_aload_n hx hb d_Mo_register_30 rfl (lv_at hl 0 rfl) ?_
        refine g_Mo_13 hx hb hts hown hK S.1 d_Mo_register_31 ?_
        refine lv_iload_n hx hb d_Mo_register_34 rfl (lv_at hl 1 rfl) ?_
        obtain ⟨g1, hok⟩ := hok
        refine ld_M_2 (k := (v1).toNatClampNeg) hx hb hK S.1 g1 rfl d_Mo_register_35 ?_
        exact ret _ _ _ _ _ _ S hq d_Mo_register_36
    · have hq := hq.trans (if_pos h19)
      have hok := ok_pos h19 hok
      refine lv_iconst (v := 0) hx hb d_Mo_register_22 (by decide) ?_
      exact ret _ _ _ _ _ _ S hq d_Mo_register_23
  have B_Mo_register_11 : ∀ (v1 : Int32) (σ : nS) (H : Heap) (locs : List Loc) (ls : Array Slot), (o_Mo_register_11 v1 σ) → lv_has ls 2 [(0, .ref (a 0)), (1, .int v1)] → St D (wM cI cZ a) A s σ H locs → F = s_Mo_register_11 v1 σ → W p l e ({ frames := 1, cells := 0, slots := 0, locals := 21 } : Room) s m args below meth c H locs 0 0 Q (F0 m 11 ls [.ref (a 0)]) := by
    intro v1 σ H locs ls hok hl S hq
    refine lv_iconst (v := 1) hx hb d_Mo_register_11 (by decide) ?_
    refine lv_goto (tgt := 16) hx hb d_Mo_register_12 rfl ?_
    exact B_Mo_register_16 _ true _ _ _ _ hok (lv_sub hl [0, 1] rfl) S hq
  refine lv_aload_n hx hb d_Mo_register_0 rfl (lv_at hl 0 rfl) ?_
  refine lv_iload_n hx hb d_Mo_register_1 rfl (lv_at hl 1 rfl) ?_
  refine lv_if_lt (tgt := 11) hx hb d_Mo_register_2 rfl (fun h2 => ?_) (fun h2 => ?_)
  · have hq := hq.trans (if_pos h2)
    have hok := ok_pos h2 hok
    exact B_Mo_register_11 _ _ _ _ _ hok (lv_sub hl [0, 1] rfl) S hq
  · have hq := hq.trans (if_neg h2)
    have hok := ok_neg h2 hok
    refine lv_iload_n hx hb d_Mo_register_5 rfl (lv_at hl 1 rfl) ?_
    refine lv_bipush (v := 20) hx hb d_Mo_register_6 (by decide) ?_
    refine lv_icmp_le (tgt := 15) hx hb d_Mo_register_8 rfl (fun h8 => ?_) (fun h8 => ?_)
    · have hq := hq.trans (if_pos h8)
      have hok := ok_pos h8 hok
      refine lv_iconst (v := 0) hx hb d_Mo_register_15 (by decide) ?_
      exact B_Mo_register_16 _ false _ _ _ _ hok (lv_sub hl [0, 1] rfl) S hq
    · have hq := hq.trans (if_neg h8)
      have hok := ok_neg h8 hok
      exact B_Mo_register_11 _ _ _ _ _ hok (lv_sub hl [0, 1] rfl) S hq
end CT
