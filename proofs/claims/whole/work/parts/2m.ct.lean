section CT
variable {l : Launch} {D : va_G} {cI cZ : ClassId} {a : Nat → Nat} {t : Nat}
set_option maxHeartbeats 4000000 in
set_option maxRecDepth 100000 in
theorem c_Mo_state (v1 : Int32) (σ : nS) (hok : o_Mo_state v1 σ) : CtI l D cI cZ (wM cI cZ a) exM y_Mo_state b_Mo_state 4 { frames := 3, cells := 0, slots := 0, locals := 65 } [.ref (a 0), .int v1] σ (s_Mo_state v1 σ) := by
  generalize hF : s_Mo_state v1 σ = F
  refine metI exM_ok (by decide) (Nat.le_of_ble_eq_true rfl) (fun p e s m args below meth c A Q ls X S hl ret => ?_)
  have hq := hF.symm
  obtain ⟨hx, hb, hml, hown, hts, hK, hA, hE, hlk, hEo⟩ := id X
  have hl : lv_has ls 4 [(0, .ref (a 0)), (1, .int v1)] := hl
  have B_Mo_state_157 : ∀ (k0 : Int32) (k1 : Bool) (σ : nS) (H : Heap) (locs : List Loc) (ls : Array Slot), (o_Mo_state_157 k0 k1 σ) → lv_has ls 4 [] → St D (wM cI cZ a) A s σ H locs → F = s_Mo_state_157 k0 k1 σ → W p l e ({ frames := 3, cells := 0, slots := 0, locals := 65 } : Room) s m args below meth c H locs 0 0 Q (F0 m 157 ls [.int (bI k1), .int k0]) := by
    intro k0 k1 σ H locs ls hok hl S hq
    refine lv_iadd hx hb d_Mo_state_157 ?_
    exact ret _ _ _ _ _ _ S hq d_Mo_state_158
  have B_Mo_state_144 : ∀ (k0 : Int32) (k1 : Int32) (σ : nS) (H : Heap) (locs : List Loc) (ls : Array Slot), (o_Mo_state_144 k0 k1 σ) → lv_has ls 4 [(0, .ref (a 0))] → St D (wM cI cZ a) A s σ H locs → F = s_Mo_state_144 k0 k1 σ → W p l e ({ frames := 3, cells := 0, slots := 0, locals := 65 } : Room) s m args below meth c H locs 0 0 Q (F0 m 144 ls [.int k1, .int k0]) := by
    intro k0 k1 σ H locs ls hok hl S hq
    refine lv_iadd hx hb d_Mo_state_144 ?_
    refine lv_aload_n hx hb d_Mo_state_145 rfl (lv_at hl 0 rfl) ?_
    refine g_Mo_92 hx hb hts hown hK S.1 d_Mo_state_146 ?_
    refine lv_if_eq (tgt := 156) hx hb d_Mo_state_149 rfl (fun h149 => ?_) (fun h149 => ?_)
    · have hq := hq.trans (if_pos h149)
      have hok := ok_pos h149 hok
      refine lv_iconst (v := 0) hx hb d_Mo_state_156 (by decide) ?_
      exact B_Mo_state_157 _ false _ _ _ _ hok (lv_sub hl [] rfl) S hq
    · have hq := hq.trans (if_neg h149)
      have hok := ok_neg h149 hok
      refine lv_iconst (v := 1) hx hb d_Mo_state_152 (by decide) ?_
      refine lv_goto (tgt := 157) hx hb d_Mo_state_153 rfl ?_
      exact B_Mo_state_157 _ true _ _ _ _ hok (lv_sub hl [] rfl) S hq
  have B_Mo_state_131 : ∀ (k0 : Int32) (k1 : Int32) (σ : nS) (H : Heap) (locs : List Loc) (ls : Array Slot), (o_Mo_state_131 k0 k1 σ) → lv_has ls 4 [(0, .ref (a 0))] → St D (wM cI cZ a) A s σ H locs → F = s_Mo_state_131 k0 k1 σ → W p l e ({ frames := 3, cells := 0, slots := 0, locals := 65 } : Room) s m args below meth c H locs 0 0 Q (F0 m 131 ls [.int k1, .int k0]) := by
    intro k0 k1 σ H locs ls hok hl S hq
    refine lv_iadd hx hb d_Mo_state_131 ?_
    refine lv_aload_n hx hb d_Mo_state_132 rfl (lv_at hl 0 rfl) ?_
    refine g_Mo_88 hx hb hts hown hK S.1 d_Mo_state_133 ?_
    refine lv_if_eq (tgt := 143) hx hb d_Mo_state_136 rfl (fun h136 => ?_) (fun h136 => ?_)
    · have hq := hq.trans (if_pos h136)
      have hok := ok_pos h136 hok
      refine lv_iconst (v := 0) hx hb d_Mo_state_143 (by decide) ?_
      exact B_Mo_state_144 _ _ _ _ _ _ hok (lv_sub hl [0] rfl) S hq
    · have hq := hq.trans (if_neg h136)
      have hok := ok_neg h136 hok
      refine lv_iconst (v := 2) hx hb d_Mo_state_139 (by decide) ?_
      refine lv_goto (tgt := 144) hx hb d_Mo_state_140 rfl ?_
      exact B_Mo_state_144 _ _ _ _ _ _ hok (lv_sub hl [0] rfl) S hq
  have B_Mo_state_119 : ∀ (k0 : Int32) (σ : nS) (H : Heap) (locs : List Loc) (ls : Array Slot), (o_Mo_state_119 k0 σ) → lv_has ls 4 [(0, .ref (a 0))] → St D (wM cI cZ a) A s σ H locs → F = s_Mo_state_119 k0 σ → W p l e ({ frames := 3, cells := 0, slots := 0, locals := 65 } : Room) s m args below meth c H locs 0 0 Q (F0 m 119 ls [.int k0]) := by
    intro k0 σ H locs ls hok hl S hq
    refine lv_aload_n hx hb d_Mo_state_119 rfl (lv_at hl 0 rfl) ?_
    refine g_Mo_84 hx hb hts hown hK S.1 d_Mo_state_120 ?_
    refine lv_if_eq (tgt := 130) hx hb d_Mo_state_123 rfl (fun h123 => ?_) (fun h123 => ?_)
    · have hq := hq.trans (if_pos h123)
      have hok := ok_pos h123 hok
      refine lv_iconst (v := 0) hx hb d_Mo_state_130 (by decide) ?_
      exact B_Mo_state_131 _ _ _ _ _ _ hok (lv_sub hl [0] rfl) S hq
    · have hq := hq.trans (if_neg h123)
      have hok := ok_neg h123 hok
      refine lv_iconst (v := 4) hx hb d_Mo_state_126 (by decide) ?_
      refine lv_goto (tgt := 131) hx hb d_Mo_state_127 rfl ?_
      exact B_Mo_state_131 _ _ _ _ _ _ hok (lv_sub hl [0] rfl) S hq
  have B_Mo_state_100 : ∀ (k0 : Int32) (k1 : Int32) (σ : nS) (H : Heap) (locs : List Loc) (ls : Array Slot), (o_Mo_state_100 k0 k1 σ) → lv_has ls 4 [] → St D (wM cI cZ a) A s σ H locs → F = s_Mo_state_100 k0 k1 σ → W p l e ({ frames := 3, cells := 0, slots := 0, locals := 65 } : Room) s m args below meth c H locs 0 0 Q (F0 m 100 ls [.int k1, .int k0]) := by
    intro k0 k1 σ H locs ls hok hl S hq
    refine lv_iadd hx hb d_Mo_state_100 ?_
    exact ret _ _ _ _ _ _ S hq d_Mo_state_101
  have B_Mo_state_85 : ∀ (v3 : Int32) (k0 : Bool) (k1 : Int32) (σ : nS) (H : Heap) (locs : List Loc) (ls : Array Slot), (o_Mo_state_85 v3 k0 k1 σ) → lv_has ls 4 [(0, .ref (a 0)), (3, .int v3)] → St D (wM cI cZ a) A s σ H locs → F = s_Mo_state_85 v3 k0 k1 σ → W p l e ({ frames := 3, cells := 0, slots := 0, locals := 65 } : Room) s m args below meth c H locs 0 0 Q (F0 m 85 ls [.int k1, .int (bI k0)]) := by
    intro v3 k0 k1 σ H locs ls hok hl S hq
    refine lv_iadd hx hb d_Mo_state_85 ?_
    refine lv_aload_n hx hb d_Mo_state_86 rfl (lv_at hl 0 rfl) ?_
    refine g_Mo_19 hx hb hts hown hK S.1 d_Mo_state_87 ?_
    refine lv_iload_n hx hb d_Mo_state_90 rfl (lv_at hl 1 rfl) ?_
    obtain ⟨g1, hok⟩ := hok
    refine ld_M_4 (k := (v3).toNatClampNeg) hx hb hK S.1 g1 rfl d_Mo_state_91 ?_
    refine lv_if_eq (tgt := 99) hx hb d_Mo_state_92 rfl (fun h92 => ?_) (fun h92 => ?_)
    · have hq := hq.trans (if_pos h92)
      have hok := ok_pos h92 hok
      refine lv_iconst (v := 0) hx hb d_Mo_state_99 (by decide) ?_
      exact B_Mo_state_100 _ _ _ _ _ _ hok (lv_sub hl [] rfl) S hq
    · have hq := hq.trans (if_neg h92)
      have hok := ok_neg h92 hok
      refine lv_iconst (v := 4) hx hb d_Mo_state_95 (by decide) ?_
      refine lv_goto (tgt := 100) hx hb d_Mo_state_96 rfl ?_
      exact B_Mo_state_100 _ _ _ _ _ _ hok (lv_sub hl [] rfl) S hq
  have B_Mo_state_71 : ∀ (v3 : Int32) (k0 : Bool) (σ : nS) (H : Heap) (locs : List Loc) (ls : Array Slot), (o_Mo_state_71 v3 k0 σ) → lv_has ls 4 [(0, .ref (a 0)), (3, .int v3)] → St D (wM cI cZ a) A s σ H locs → F = s_Mo_state_71 v3 k0 σ → W p l e ({ frames := 3, cells := 0, slots := 0, locals := 65 } : Room) s m args below meth c H locs 0 0 Q (F0 m 71 ls [.int (bI k0)]) := by
    intro v3 k0 σ H locs ls hok hl S hq
    refine lv_aload_n hx hb d_Mo_state_71 rfl (lv_at hl 0 rfl) ?_
    refine g_Mo_26 hx hb hts hown hK S.1 d_Mo_state_72 ?_
    refine lv_iload_n hx hb d_Mo_state_75 rfl (lv_at hl 1 rfl) ?_
    obtain ⟨g2, hok⟩ := hok
    refine ld_M_6 (k := (v3).toNatClampNeg) hx hb hK S.1 g2 rfl d_Mo_state_76 ?_
    refine lv_if_eq (tgt := 84) hx hb d_Mo_state_77 rfl (fun h77 => ?_) (fun h77 => ?_)
    · have hq := hq.trans (if_pos h77)
      have hok := ok_pos h77 hok
      refine lv_iconst (v := 0) hx hb d_Mo_state_84 (by decide) ?_
      exact B_Mo_state_85 _ _ _ _ _ _ _ hok (lv_sub hl [0, 1] rfl) S hq
    · have hq := hq.trans (if_neg h77)
      have hok := ok_neg h77 hok
      refine lv_iconst (v := 2) hx hb d_Mo_state_80 (by decide) ?_
      refine lv_goto (tgt := 85) hx hb d_Mo_state_81 rfl ?_
      exact B_Mo_state_85 _ _ _ _ _ _ _ hok (lv_sub hl [0, 1] rfl) S hq
  have B_Mo_state_38 : ∀ (v1 : Int32) (k1 : Bool) (σ : nS) (H : Heap) (locs : List Loc) (ls : Array Slot), (o_Mo_state_38 v1 k1 σ) → lv_has ls 4 [(0, .ref (a 0)), (1, .int v1)] → St D (wM cI cZ a) A s σ H locs → F = s_Mo_state_38 v1 k1 σ → W p l e ({ frames := 3, cells := 0, slots := 0, locals := 65 } : Room) s m args below meth c H locs 0 0 Q (F0 m 38 ls [.int (bI k1), .ref (a 0)]) := by
    intro v1 k1 σ H locs ls hok hl S hq
    refine callVZ X S hl (c_Mo_fails k1 _) v_Mo_218 0 6 ⟨rfl, rfl⟩ (rk_dec (by decide)) rfl rfl (Nat.le_of_ble_eq_true rfl) d_Mo_state_38 (fun r1 σ1 H locs e1 S => ?_)
    have hq := hq.trans (ap2_eq e1)
    have hok := ok_ap2 e1 hok
    refine r_ifeqZ (tgt := 46) hx hb d_Mo_state_41 rfl (fun h41 => ?_) (fun h41 => ?_)
    · have hq := hq.trans (if_neg h41)
      have hok := ok_neg h41 hok
      refine lv_iload_n hx hb d_Mo_state_46 rfl (lv_at hl 1 rfl) ?_
      refine lv_bipush (v := 17) hx hb d_Mo_state_47 (by decide) ?_
      refine lv_icmp_le (tgt := 102) hx hb d_Mo_state_49 rfl (fun h49 => ?_) (fun h49 => ?_)
      · have hq := hq.trans (if_pos h49)
        have hok := ok_pos h49 hok
        refine lv_iload_n hx hb d_Mo_state_102 rfl (lv_at hl 1 rfl) ?_
        refine lv_if_ne (tgt := 159) hx hb d_Mo_state_103 rfl (fun h103 => ?_) (fun h103 => ?_)
        · have hq := hq.trans (if_neg h103)
          have hok := ok_neg h103 hok
          refine lv_iload_n hx hb d_Mo_state_159 rfl (lv_at hl 1 rfl) ?_
          refine lv_iconst (v := 1) hx hb d_Mo_state_160 (by decide) ?_
          refine lv_icmp_ne (tgt := 169) hx hb d_Mo_state_161 rfl (fun h161 => ?_) (fun h161 => ?_)
          · have hq := hq.trans (if_neg h161)
            have hok := ok_neg h161 hok
            refine lv_iload_n hx hb d_Mo_state_169 rfl (lv_at hl 1 rfl) ?_
            refine lv_iconst (v := 2) hx hb d_Mo_state_170 (by decide) ?_
            refine lv_icmp_ne (tgt := 179) hx hb d_Mo_state_171 rfl (fun h171 => ?_) (fun h171 => ?_)
            · have hq := hq.trans (if_neg h171)
              have hok := ok_neg h171 hok
              refine lv_iload_n hx hb d_Mo_state_179 rfl (lv_at hl 1 rfl) ?_
              refine lv_iconst (v := 3) hx hb d_Mo_state_180 (by decide) ?_
              refine lv_icmp_ne (tgt := 189) hx hb d_Mo_state_181 rfl (fun h181 => ?_) (fun h181 => ?_)
              · have hq := hq.trans (if_neg h181)
                have hok := ok_neg h181 hok
                refine lv_iload_n hx hb d_Mo_state_189 rfl (lv_at hl 1 rfl) ?_
                refine lv_iconst (v := 4) hx hb d_Mo_state_190 (by decide) ?_
                refine lv_icmp_ne (tgt := 199) hx hb d_Mo_state_191 rfl (fun h191 => ?_) (fun h191 => ?_)
                · have hq := hq.trans (if_neg h191)
                  have hok := ok_neg h191 hok
                  refine lv_iload_n hx hb d_Mo_state_199 rfl (lv_at hl 1 rfl) ?_
                  refine lv_iconst (v := 5) hx hb d_Mo_state_200 (by decide) ?_
                  refine lv_icmp_ne (tgt := 209) hx hb d_Mo_state_201 rfl (fun h201 => ?_) (fun h201 => ?_)
                  · have hq := hq.trans (if_neg h201)
                    have hok := ok_neg h201 hok
                    refine lv_iload_n hx hb d_Mo_state_209 rfl (lv_at hl 1 rfl) ?_
                    refine lv_bipush (v := 6) hx hb d_Mo_state_210 (by decide) ?_
                    refine lv_icmp_ne (tgt := 222) hx hb d_Mo_state_212 rfl (fun h212 => ?_) (fun h212 => ?_)
                    · have hq := hq.trans (if_neg h212)
                      have hok := ok_neg h212 hok
                      refine lv_iload_n hx hb d_Mo_state_222 rfl (lv_at hl 1 rfl) ?_
                      refine lv_bipush (v := 7) hx hb d_Mo_state_223 (by decide) ?_
                      refine lv_icmp_ne (tgt := 235) hx hb d_Mo_state_225 rfl (fun h225 => ?_) (fun h225 => ?_)
                      · have hq := hq.trans (if_neg h225)
                        have hok := ok_neg h225 hok
                        refine lv_aload_n hx hb d_Mo_state_235 rfl (lv_at hl 0 rfl) ?_
                        refine g_Mo_206 hx hb hts hown hK S.1 d_Mo_state_236 ?_
                        exact ret _ _ _ _ _ _ S hq d_Mo_state_239
                      · have hq := hq.trans (if_pos h225)
                        have hok := ok_pos h225 hok
                        refine lv_aload_n hx hb d_Mo_state_228 rfl (lv_at hl 0 rfl) ?_
                        refine g_Mo_120 hx hb hts hown hK S.1 d_Mo_state_229 ?_
                        refine lv_goto (tgt := 239) hx hb d_Mo_state_232 rfl ?_
                        exact ret _ _ _ _ _ _ S hq d_Mo_state_239
                    · have hq := hq.trans (if_pos h212)
                      have hok := ok_pos h212 hok
                      refine lv_aload_n hx hb d_Mo_state_215 rfl (lv_at hl 0 rfl) ?_
                      refine g_Mo_99 hx hb hts hown hK S.1 d_Mo_state_216 ?_
                      refine lv_goto (tgt := 239) hx hb d_Mo_state_219 rfl ?_
                      exact ret _ _ _ _ _ _ S hq d_Mo_state_239
                  · have hq := hq.trans (if_pos h201)
                    have hok := ok_pos h201 hok
                    refine lv_aload_n hx hb d_Mo_state_204 rfl (lv_at hl 0 rfl) ?_
                    refine g_Mo_141 hx hb hts hown hK S.1 d_Mo_state_205 ?_
                    exact ret _ _ _ _ _ _ S hq d_Mo_state_208
                · have hq := hq.trans (if_pos h191)
                  have hok := ok_pos h191 hok
                  refine lv_aload_n hx hb d_Mo_state_194 rfl (lv_at hl 0 rfl) ?_
                  refine g_Mo_114 hx hb hts hown hK S.1 d_Mo_state_195 ?_
                  exact ret _ _ _ _ _ _ S hq d_Mo_state_198
              · have hq := hq.trans (if_pos h181)
                have hok := ok_pos h181 hok
                refine lv_aload_n hx hb d_Mo_state_184 rfl (lv_at hl 0 rfl) ?_
                refine callVIp X S hl (c_Mo_due _) v_Mo_135 0 6 ⟨rfl, rfl⟩ (rk_dec (by decide)) rfl rfl (Nat.le_of_ble_eq_true rfl) d_Mo_state_185 (fun H locs S => ?_)
                exact ret _ _ _ _ _ _ S hq d_Mo_state_188
            · have hq := hq.trans (if_pos h171)
              have hok := ok_pos h171 hok
              refine lv_aload_n hx hb d_Mo_state_174 rfl (lv_at hl 0 rfl) ?_
              refine callVIp X S hl (c_Mo_level _) v_Mo_70 0 6 ⟨rfl, rfl⟩ (rk_dec (by decide)) rfl rfl (Nat.le_of_ble_eq_true rfl) d_Mo_state_175 (fun H locs S => ?_)
              exact ret _ _ _ _ _ _ S hq d_Mo_state_178
          · have hq := hq.trans (if_pos h161)
            have hok := ok_pos h161 hok
            refine lv_aload_n hx hb d_Mo_state_164 rfl (lv_at hl 0 rfl) ?_
            refine g_Mo_74 hx hb hts hown hK S.1 d_Mo_state_165 ?_
            exact ret _ _ _ _ _ _ S hq d_Mo_state_168
        · have hq := hq.trans (if_pos h103)
          have hok := ok_pos h103 hok
          refine lv_aload_n hx hb d_Mo_state_106 rfl (lv_at hl 0 rfl) ?_
          refine g_Mo_80 hx hb hts hown hK S.1 d_Mo_state_107 ?_
          refine lv_if_eq (tgt := 118) hx hb d_Mo_state_110 rfl (fun h110 => ?_) (fun h110 => ?_)
          · have hq := hq.trans (if_pos h110)
            have hok := ok_pos h110 hok
            refine lv_iconst (v := 0) hx hb d_Mo_state_118 (by decide) ?_
            exact B_Mo_state_119 _ _ _ _ _ hok (lv_sub hl [0] rfl) S hq
          · have hq := hq.trans (if_neg h110)
            have hok := ok_neg h110 hok
            refine lv_bipush (v := 8) hx hb d_Mo_state_113 (by decide) ?_
            refine lv_goto (tgt := 119) hx hb d_Mo_state_115 rfl ?_
            exact B_Mo_state_119 _ _ _ _ _ hok (lv_sub hl [0] rfl) S hq
      · have hq := hq.trans (if_neg h49)
        have hok := ok_neg h49 hok
        refine lv_iload_n hx hb d_Mo_state_52 rfl (lv_at hl 1 rfl) ?_
        refine lv_bipush (v := 16) hx hb d_Mo_state_53 (by decide) ?_
        refine lv_isub hx hb d_Mo_state_55 ?_
        refine lv_istore_n hx hb d_Mo_state_56 rfl hl (by decide) rfl (fun ls hl => ?_)
        refine lv_aload_n hx hb d_Mo_state_57 rfl (lv_at hl 1 rfl) ?_
        refine g_Mo_23 hx hb hts hown hK S.1 d_Mo_state_58 ?_
        refine lv_iload_n hx hb d_Mo_state_61 rfl (lv_at hl 0 rfl) ?_
        obtain ⟨g3, hok⟩ := hok
        refine ld_M_5 (k := ((v1 - (16 : Int32))).toNatClampNeg) hx hb hK S.1 g3 rfl d_Mo_state_62 ?_
        refine lv_if_eq (tgt := 70) hx hb d_Mo_state_63 rfl (fun h63 => ?_) (fun h63 => ?_)
        · have hq := hq.trans (if_pos h63)
          have hok := ok_pos h63 hok
          refine lv_iconst (v := 0) hx hb d_Mo_state_70 (by decide) ?_
          exact B_Mo_state_71 _ false _ _ _ _ hok (lv_sub hl [1, 0] rfl) S hq
        · have hq := hq.trans (if_neg h63)
          have hok := ok_neg h63 hok
          refine lv_iconst (v := 1) hx hb d_Mo_state_66 (by decide) ?_
          refine lv_goto (tgt := 71) hx hb d_Mo_state_67 rfl ?_
          exact B_Mo_state_71 _ true _ _ _ _ hok (lv_sub hl [1, 0] rfl) S hq
    · have hq := hq.trans (if_pos h41)
      have hok := ok_pos h41 hok
      refine lv_iconst (v := 0) hx hb d_Mo_state_44 (by decide) ?_
      exact ret _ _ _ _ _ _ S hq d_Mo_state_45
  have B_Mo_state_27 : ∀ (v1 : Int32) (k0 : Bool) (σ : nS) (H : Heap) (locs : List Loc) (ls : Array Slot), (o_Mo_state_27 v1 k0 σ) → lv_has ls 4 [(0, .ref (a 0)), (1, .int v1)] → St D (wM cI cZ a) A s σ H locs → F = s_Mo_state_27 v1 k0 σ → W p l e ({ frames := 3, cells := 0, slots := 0, locals := 65 } : Room) s m args below meth c H locs 0 0 Q (F0 m 27 ls [.int (bI k0)]) := by
    intro v1 k0 σ H locs ls hok hl S hq
    refine lv_istore_n hx hb d_Mo_state_27 rfl hl (by decide) rfl (fun ls hl => ?_)
    refine lv_aload_n hx hb d_Mo_state_28 rfl (lv_at hl 1 rfl) ?_
    refine lv_iload_n hx hb d_Mo_state_29 rfl (lv_at hl 0 rfl) ?_
    refine r_ifneZ (tgt := 37) hx hb d_Mo_state_30 rfl (fun h30 => ?_) (fun h30 => ?_)
    · have hq := hq.trans (if_pos h30)
      have hok := ok_pos h30 hok
      refine lv_iconst (v := 0) hx hb d_Mo_state_37 (by decide) ?_
      exact B_Mo_state_38 _ false _ _ _ _ hok (lv_sub hl [1, 2] rfl) S hq
    · have hq := hq.trans (if_neg h30)
      have hok := ok_neg h30 hok
      refine lv_iconst (v := 1) hx hb d_Mo_state_33 (by decide) ?_
      refine lv_goto (tgt := 38) hx hb d_Mo_state_34 rfl ?_
      exact B_Mo_state_38 _ true _ _ _ _ hok (lv_sub hl [1, 2] rfl) S hq
  have B_Mo_state_26 : ∀ (v1 : Int32) (σ : nS) (H : Heap) (locs : List Loc) (ls : Array Slot), (o_Mo_state_26 v1 σ) → lv_has ls 4 [(0, .ref (a 0)), (1, .int v1)] → St D (wM cI cZ a) A s σ H locs → F = s_Mo_state_26 v1 σ → W p l e ({ frames := 3, cells := 0, slots := 0, locals := 65 } : Room) s m args below meth c H locs 0 0 Q (F0 m 26 ls []) := by
    intro v1 σ H locs ls hok hl S hq
    refine lv_iconst (v := 0) hx hb d_Mo_state_26 (by decide) ?_
    exact B_Mo_state_27 _ false _ _ _ _ hok (lv_sub hl [0, 1] rfl) S hq
  have B_Mo_state_22 : ∀ (v1 : Int32) (σ : nS) (H : Heap) (locs : List Loc) (ls : Array Slot), (o_Mo_state_22 v1 σ) → lv_has ls 4 [(0, .ref (a 0)), (1, .int v1)] → St D (wM cI cZ a) A s σ H locs → F = s_Mo_state_22 v1 σ → W p l e ({ frames := 3, cells := 0, slots := 0, locals := 65 } : Room) s m args below meth c H locs 0 0 Q (F0 m 22 ls []) := by
    intro v1 σ H locs ls hok hl S hq
    refine lv_iconst (v := 1) hx hb d_Mo_state_22 (by decide) ?_
    refine lv_goto (tgt := 27) hx hb d_Mo_state_23 rfl ?_
    exact B_Mo_state_27 _ true _ _ _ _ hok (lv_sub hl [0, 1] rfl) S hq
  have B_Mo_state_10 : ∀ (v1 : Int32) (σ : nS) (H : Heap) (locs : List Loc) (ls : Array Slot), (o_Mo_state_10 v1 σ) → lv_has ls 4 [(0, .ref (a 0)), (1, .int v1)] → St D (wM cI cZ a) A s σ H locs → F = s_Mo_state_10 v1 σ → W p l e ({ frames := 3, cells := 0, slots := 0, locals := 65 } : Room) s m args below meth c H locs 0 0 Q (F0 m 10 ls []) := by
    intro v1 σ H locs ls hok hl S hq
    refine lv_iload_n hx hb d_Mo_state_10 rfl (lv_at hl 1 rfl) ?_
    refine lv_bipush (v := 18) hx hb d_Mo_state_11 (by decide) ?_
    refine lv_icmp_lt (tgt := 26) hx hb d_Mo_state_13 rfl (fun h13 => ?_) (fun h13 => ?_)
    · have hq := hq.trans (if_pos h13)
      have hok := ok_pos h13 hok
      exact B_Mo_state_26 _ _ _ _ _ hok (lv_sub hl [0, 1] rfl) S hq
    · have hq := hq.trans (if_neg h13)
      have hok := ok_neg h13 hok
      refine lv_iload_n hx hb d_Mo_state_16 rfl (lv_at hl 1 rfl) ?_
      refine lv_bipush (v := 32) hx hb d_Mo_state_17 (by decide) ?_
      refine lv_icmp_ge (tgt := 26) hx hb d_Mo_state_19 rfl (fun h19 => ?_) (fun h19 => ?_)
      · have hq := hq.trans (if_pos h19)
        have hok := ok_pos h19 hok
        exact B_Mo_state_26 _ _ _ _ _ hok (lv_sub hl [0, 1] rfl) S hq
      · have hq := hq.trans (if_neg h19)
        have hok := ok_neg h19 hok
        exact B_Mo_state_22 _ _ _ _ _ hok (lv_sub hl [0, 1] rfl) S hq
  refine lv_iload_n hx hb d_Mo_state_0 rfl (lv_at hl 1 rfl) ?_
  refine lv_if_lt (tgt := 10) hx hb d_Mo_state_1 rfl (fun h1 => ?_) (fun h1 => ?_)
  · have hq := hq.trans (if_pos h1)
    have hok := ok_pos h1 hok
    exact B_Mo_state_10 _ _ _ _ _ hok (lv_sub hl [0, 1] rfl) S hq
  · have hq := hq.trans (if_neg h1)
    have hok := ok_neg h1 hok
    refine lv_iload_n hx hb d_Mo_state_4 rfl (lv_at hl 1 rfl) ?_
    refine lv_bipush (v := 9) hx hb d_Mo_state_5 (by decide) ?_
    refine lv_icmp_lt (tgt := 22) hx hb d_Mo_state_7 rfl (fun h7 => ?_) (fun h7 => ?_)
    · have hq := hq.trans (if_pos h7)
      have hok := ok_pos h7 hok
      exact B_Mo_state_22 _ _ _ _ _ hok (lv_sub hl [0, 1] rfl) S hq
    · have hq := hq.trans (if_neg h7)
      have hok := ok_neg h7 hok
      exact B_Mo_state_10 _ _ _ _ _ hok (lv_sub hl [0, 1] rfl) S hq
end CT
