section CT
variable {l : Launch} {D : va_G} {cI cZ : ClassId} {a : Nat → Nat} {t : Nat}
set_option maxHeartbeats 4000000 in
set_option maxRecDepth 100000 in
theorem c_Mo_comeBack (v1 : Int32) (σ : nS) (hok : o_Mo_comeBack v1 σ) : CtV l D cI cZ (wM cI cZ a) exM y_Mo_comeBack b_Mo_comeBack 4 { frames := 1, cells := 0, slots := 0, locals := 21 } [.ref (a 0), .int v1] σ (s_Mo_comeBack v1 σ) := by
  generalize hF : s_Mo_comeBack v1 σ = F
  refine metV exM_ok (by decide) (Nat.le_of_ble_eq_true rfl) (fun p e s m args below meth c A Q ls X S hl ret => ?_)
  have hq := hF.symm
  obtain ⟨hx, hb, hml, hown, hts, hK, hA, hE, hlk, hEo⟩ := id X
  have hl : lv_has ls 4 [(0, .ref (a 0)), (1, .int v1)] := hl
  have B_Mo_comeBack_123 : ∀ (k2 : Int32) (k3 : Int32) (σ : nS) (H : Heap) (locs : List Loc) (ls : Array Slot), (o_Mo_comeBack_123 k2 k3 σ) → lv_has ls 4 [] → St D (wM cI cZ a) A s σ H locs → F = s_Mo_comeBack_123 k2 k3 σ → W p l e ({ frames := 1, cells := 0, slots := 0, locals := 21 } : Room) s m args below meth c H locs 0 0 Q (F0 m 123 ls [.int k3, .int k2, .int (13 : Int32), .ref (a 2)]) := by
    intro k2 k3 σ H locs ls hok hl S hq
    refine lv_iadd hx hb d_Mo_comeBack_123 ?_
    refine st_M_2 (k := 13) hx hb hK S (vin_dec (by decide)) (by decide) d_Mo_comeBack_124 (fun H locs S => ?_)
    exact ret _ _ _ _ _ S hq d_Mo_comeBack_125
  have B_Mo_comeBack_11_4 : ∀ (v1 : Int32) (v2 : Int32) (σ : nS) (H : Heap) (locs : List Loc) (ls : Array Slot), (o_Mo_comeBack_11_4 v1 v2 σ) → lv_has ls 4 [(0, .ref (a 0)), (1, .int v1), (2, .int v2), (3, .int (4 : Int32))] → St D (wM cI cZ a) A s σ H locs → F = s_Mo_comeBack_11_4 v1 v2 σ → W p l e ({ frames := 1, cells := 0, slots := 0, locals := 21 } : Room) s m args below meth c H locs 0 0 Q (F0 m 11 ls []) := by
    intro v1 v2 σ H locs ls hok hl S hq
    refine lv_iload_n hx hb d_Mo_comeBack_11 rfl (lv_at hl 3 rfl) ?_
    refine lv_iconst (v := 4) hx hb d_Mo_comeBack_12 (by decide) ?_
    refine lv_icmp_ge (tgt := 37) hx hb d_Mo_comeBack_13 rfl (fun _ => ?_) (fun h9 => absurd (by decide) h9)
    refine lv_aload_n hx hb d_Mo_comeBack_37 rfl (lv_at hl 0 rfl) ?_
    refine g_Mo_13 hx hb hts hown hK S.1 d_Mo_comeBack_38 ?_
    refine lv_bipush (v := 12) hx hb d_Mo_comeBack_41 (by decide) ?_
    refine lv_aload_n hx hb d_Mo_comeBack_43 rfl (lv_at hl 0 rfl) ?_
    refine lv_iload_n hx hb d_Mo_comeBack_44 rfl (lv_at hl 1 rfl) ?_
    refine lv_bipush (v := 16) hx hb d_Mo_comeBack_45 (by decide) ?_
    refine lv_iadd hx hb d_Mo_comeBack_47 ?_
    obtain ⟨g1, hok⟩ := hok
    refine callVIp X S hl (c_Mo_load (v1 + (16 : Int32)) _ g1) v_Mo_77 0 6 ⟨rfl, rfl⟩ (rk_dec (by decide)) rfl rfl (Nat.le_of_ble_eq_true rfl) d_Mo_comeBack_48 (fun H locs S => ?_)
    refine st_M_2 (k := 12) hx hb hK S (vin_dec (by decide)) (by decide) d_Mo_comeBack_51 (fun H locs S => ?_)
    refine lv_aload_n hx hb d_Mo_comeBack_52 rfl (lv_at hl 0 rfl) ?_
    refine g_Mo_13 hx hb hts hown hK S.1 d_Mo_comeBack_53 ?_
    refine lv_bipush (v := 14) hx hb d_Mo_comeBack_56 (by decide) ?_
    refine lv_aload_n hx hb d_Mo_comeBack_58 rfl (lv_at hl 0 rfl) ?_
    refine lv_iload_n hx hb d_Mo_comeBack_59 rfl (lv_at hl 1 rfl) ?_
    refine lv_bipush (v := 20) hx hb d_Mo_comeBack_60 (by decide) ?_
    refine lv_iadd hx hb d_Mo_comeBack_62 ?_
    obtain ⟨g2, hok⟩ := hok
    refine callVIp X S hl (c_Mo_load (v1 + (20 : Int32)) _ g2) v_Mo_77 0 6 ⟨rfl, rfl⟩ (rk_dec (by decide)) rfl rfl (Nat.le_of_ble_eq_true rfl) d_Mo_comeBack_63 (fun H locs S => ?_)
    refine st_M_2 (k := 14) hx hb hK S (vin_dec (by decide)) (by decide) d_Mo_comeBack_66 (fun H locs S => ?_)
    refine lv_aload_n hx hb d_Mo_comeBack_67 rfl (lv_at hl 0 rfl) ?_
    refine g_Mo_13 hx hb hts hown hK S.1 d_Mo_comeBack_68 ?_
    refine lv_bipush (v := 15) hx hb d_Mo_comeBack_71 (by decide) ?_
    refine lv_aload_n hx hb d_Mo_comeBack_73 rfl (lv_at hl 0 rfl) ?_
    refine lv_iload_n hx hb d_Mo_comeBack_74 rfl (lv_at hl 1 rfl) ?_
    refine lv_bipush (v := 24) hx hb d_Mo_comeBack_75 (by decide) ?_
    refine lv_iadd hx hb d_Mo_comeBack_77 ?_
    obtain ⟨g3, hok⟩ := hok
    refine callVIp X S hl (c_Mo_load (v1 + (24 : Int32)) _ g3) v_Mo_77 0 6 ⟨rfl, rfl⟩ (rk_dec (by decide)) rfl rfl (Nat.le_of_ble_eq_true rfl) d_Mo_comeBack_78 (fun H locs S => ?_)
    refine lv_bipush (v := -2) hx hb d_Mo_comeBack_81 (by decide) ?_
    refine lv_iand hx hb d_Mo_comeBack_83 ?_
    refine st_M_2 (k := 15) hx hb hK S (vin_dec (by decide)) (by decide) d_Mo_comeBack_84 (fun H locs S => ?_)
    refine lv_aload_n hx hb d_Mo_comeBack_85 rfl (lv_at hl 0 rfl) ?_
    refine lv_iload_n hx hb d_Mo_comeBack_86 rfl (lv_at hl 2 rfl) ?_
    refine lv_bipush (v := 28) hx hb d_Mo_comeBack_87 (by decide) ?_
    refine r_iushr hx hb d_Mo_comeBack_89 ?_
    refine callVV X S hl (c_Mo_flags (ush v2 (28 : Int32)) _) v_Mo_117 0 6 ⟨rfl, rfl⟩ (rk_dec (by decide)) rfl rfl (Nat.le_of_ble_eq_true rfl) d_Mo_comeBack_90 (fun σ1 H locs e1 S => ?_)
    have hq := hq.trans (ap1_eq e1)
    have hok := ok_ap1 e1 hok
    refine lv_aload_n hx hb d_Mo_comeBack_93 rfl (lv_at hl 0 rfl) ?_
    refine lv_iload_n hx hb d_Mo_comeBack_94 rfl (lv_at hl 2 rfl) ?_
    refine lv_bipush (v := 15) hx hb d_Mo_comeBack_95 (by decide) ?_
    refine lv_iand hx hb d_Mo_comeBack_97 ?_
    refine p_Mo_74 hx hb hts hown hK S d_Mo_comeBack_98 (fun H locs S => ?_)
    refine lv_aload_n hx hb d_Mo_comeBack_101 rfl (lv_at hl 0 rfl) ?_
    refine g_Mo_13 hx hb hts hown hK S.1 d_Mo_comeBack_102 ?_
    refine lv_bipush (v := 13) hx hb d_Mo_comeBack_105 (by decide) ?_
    refine lv_iload_n hx hb d_Mo_comeBack_107 rfl (lv_at hl 1 rfl) ?_
    refine lv_iload_n hx hb d_Mo_comeBack_108 rfl (lv_at hl 2 rfl) ?_
    refine lv_sipush (v := 512) hx hb d_Mo_comeBack_109 (by decide) ?_
    refine lv_iand hx hb d_Mo_comeBack_112 ?_
    refine lv_if_eq (tgt := 121) hx hb d_Mo_comeBack_113 rfl (fun h113 => ?_) (fun h113 => ?_)
    · have hq := hq.trans (if_pos h113)
      have hok := ok_pos h113 hok
      refine lv_bipush (v := 32) hx hb d_Mo_comeBack_121 (by decide) ?_
      exact B_Mo_comeBack_123 _ _ _ _ _ _ hok (lv_sub hl [] rfl) S hq
    · have hq := hq.trans (if_neg h113)
      have hok := ok_neg h113 hok
      refine lv_bipush (v := 36) hx hb d_Mo_comeBack_116 (by decide) ?_
      refine lv_goto (tgt := 123) hx hb d_Mo_comeBack_118 rfl ?_
      exact B_Mo_comeBack_123 _ _ _ _ _ _ hok (lv_sub hl [] rfl) S hq
  have B_Mo_comeBack_11_3 : ∀ (v1 : Int32) (v2 : Int32) (σ : nS) (H : Heap) (locs : List Loc) (ls : Array Slot), (o_Mo_comeBack_11_3 v1 v2 σ) → lv_has ls 4 [(0, .ref (a 0)), (1, .int v1), (2, .int v2), (3, .int (3 : Int32))] → St D (wM cI cZ a) A s σ H locs → F = s_Mo_comeBack_11_3 v1 v2 σ → W p l e ({ frames := 1, cells := 0, slots := 0, locals := 21 } : Room) s m args below meth c H locs 0 0 Q (F0 m 11 ls []) := by
    intro v1 v2 σ H locs ls hok hl S hq
    refine lv_iload_n hx hb d_Mo_comeBack_11 rfl (lv_at hl 3 rfl) ?_
    refine lv_iconst (v := 4) hx hb d_Mo_comeBack_12 (by decide) ?_
    refine lv_icmp_ge (tgt := 37) hx hb d_Mo_comeBack_13 rfl (fun h9 => absurd h9 (by decide)) (fun _ => ?_)
    refine lv_aload_n hx hb d_Mo_comeBack_16 rfl (lv_at hl 0 rfl) ?_
    refine g_Mo_13 hx hb hts hown hK S.1 d_Mo_comeBack_17 ?_
    refine lv_iload_n hx hb d_Mo_comeBack_20 rfl (lv_at hl 3 rfl) ?_
    refine lv_aload_n hx hb d_Mo_comeBack_21 rfl (lv_at hl 0 rfl) ?_
    refine lv_iload_n hx hb d_Mo_comeBack_22 rfl (lv_at hl 1 rfl) ?_
    refine lv_iconst (v := 4) hx hb d_Mo_comeBack_23 (by decide) ?_
    refine lv_iload_n hx hb d_Mo_comeBack_24 rfl (lv_at hl 3 rfl) ?_
    refine lv_imul hx hb d_Mo_comeBack_25 ?_
    refine r_ci (v := 12) (by decide) ?_
    refine lv_iadd hx hb d_Mo_comeBack_26 ?_
    obtain ⟨g4, hok⟩ := hok
    refine callVIp X S hl (c_Mo_load (v1 + (12 : Int32)) _ g4) v_Mo_77 0 6 ⟨rfl, rfl⟩ (rk_dec (by decide)) rfl rfl (Nat.le_of_ble_eq_true rfl) d_Mo_comeBack_27 (fun H locs S => ?_)
    refine st_M_2 (k := 3) hx hb hK S (vin_dec (by decide)) (by decide) d_Mo_comeBack_30 (fun H locs S => ?_)
    refine lv_iinc (k := 3) (v := (4 : Int32)) hx hb d_Mo_comeBack_31 hl rfl (by first | rfl | decide) (by decide) rfl (fun ls hl => ?_)
    refine lv_goto (tgt := 11) hx hb d_Mo_comeBack_34 rfl ?_
    exact B_Mo_comeBack_11_4 _ _ _ _ _ _ hok (lv_sub hl [1, 2, 3, 0] rfl) S hq
  have B_Mo_comeBack_11_2 : ∀ (v1 : Int32) (v2 : Int32) (σ : nS) (H : Heap) (locs : List Loc) (ls : Array Slot), (o_Mo_comeBack_11_2 v1 v2 σ) → lv_has ls 4 [(0, .ref (a 0)), (1, .int v1), (2, .int v2), (3, .int (2 : Int32))] → St D (wM cI cZ a) A s σ H locs → F = s_Mo_comeBack_11_2 v1 v2 σ → W p l e ({ frames := 1, cells := 0, slots := 0, locals := 21 } : Room) s m args below meth c H locs 0 0 Q (F0 m 11 ls []) := by
    intro v1 v2 σ H locs ls hok hl S hq
    refine lv_iload_n hx hb d_Mo_comeBack_11 rfl (lv_at hl 3 rfl) ?_
    refine lv_iconst (v := 4) hx hb d_Mo_comeBack_12 (by decide) ?_
    refine lv_icmp_ge (tgt := 37) hx hb d_Mo_comeBack_13 rfl (fun h9 => absurd h9 (by decide)) (fun _ => ?_)
    refine lv_aload_n hx hb d_Mo_comeBack_16 rfl (lv_at hl 0 rfl) ?_
    refine g_Mo_13 hx hb hts hown hK S.1 d_Mo_comeBack_17 ?_
    refine lv_iload_n hx hb d_Mo_comeBack_20 rfl (lv_at hl 3 rfl) ?_
    refine lv_aload_n hx hb d_Mo_comeBack_21 rfl (lv_at hl 0 rfl) ?_
    refine lv_iload_n hx hb d_Mo_comeBack_22 rfl (lv_at hl 1 rfl) ?_
    refine lv_iconst (v := 4) hx hb d_Mo_comeBack_23 (by decide) ?_
    refine lv_iload_n hx hb d_Mo_comeBack_24 rfl (lv_at hl 3 rfl) ?_
    refine lv_imul hx hb d_Mo_comeBack_25 ?_
    refine r_ci (v := 8) (by decide) ?_
    refine lv_iadd hx hb d_Mo_comeBack_26 ?_
    obtain ⟨g5, hok⟩ := hok
    refine callVIp X S hl (c_Mo_load (v1 + (8 : Int32)) _ g5) v_Mo_77 0 6 ⟨rfl, rfl⟩ (rk_dec (by decide)) rfl rfl (Nat.le_of_ble_eq_true rfl) d_Mo_comeBack_27 (fun H locs S => ?_)
    refine st_M_2 (k := 2) hx hb hK S (vin_dec (by decide)) (by decide) d_Mo_comeBack_30 (fun H locs S => ?_)
    refine lv_iinc (k := 3) (v := (3 : Int32)) hx hb d_Mo_comeBack_31 hl rfl (by first | rfl | decide) (by decide) rfl (fun ls hl => ?_)
    refine lv_goto (tgt := 11) hx hb d_Mo_comeBack_34 rfl ?_
    exact B_Mo_comeBack_11_3 _ _ _ _ _ _ hok (lv_sub hl [1, 2, 3, 0] rfl) S hq
  have B_Mo_comeBack_11_1 : ∀ (v1 : Int32) (v2 : Int32) (σ : nS) (H : Heap) (locs : List Loc) (ls : Array Slot), (o_Mo_comeBack_11_1 v1 v2 σ) → lv_has ls 4 [(0, .ref (a 0)), (1, .int v1), (2, .int v2), (3, .int (1 : Int32))] → St D (wM cI cZ a) A s σ H locs → F = s_Mo_comeBack_11_1 v1 v2 σ → W p l e ({ frames := 1, cells := 0, slots := 0, locals := 21 } : Room) s m args below meth c H locs 0 0 Q (F0 m 11 ls []) := by
    intro v1 v2 σ H locs ls hok hl S hq
    refine lv_iload_n hx hb d_Mo_comeBack_11 rfl (lv_at hl 3 rfl) ?_
    refine lv_iconst (v := 4) hx hb d_Mo_comeBack_12 (by decide) ?_
    refine lv_icmp_ge (tgt := 37) hx hb d_Mo_comeBack_13 rfl (fun h9 => absurd h9 (by decide)) (fun _ => ?_)
    refine lv_aload_n hx hb d_Mo_comeBack_16 rfl (lv_at hl 0 rfl) ?_
    refine g_Mo_13 hx hb hts hown hK S.1 d_Mo_comeBack_17 ?_
    refine lv_iload_n hx hb d_Mo_comeBack_20 rfl (lv_at hl 3 rfl) ?_
    refine lv_aload_n hx hb d_Mo_comeBack_21 rfl (lv_at hl 0 rfl) ?_
    refine lv_iload_n hx hb d_Mo_comeBack_22 rfl (lv_at hl 1 rfl) ?_
    refine lv_iconst (v := 4) hx hb d_Mo_comeBack_23 (by decide) ?_
    refine lv_iload_n hx hb d_Mo_comeBack_24 rfl (lv_at hl 3 rfl) ?_
    refine lv_imul hx hb d_Mo_comeBack_25 ?_
    refine r_ci (v := 4) (by decide) ?_
    refine lv_iadd hx hb d_Mo_comeBack_26 ?_
    obtain ⟨g6, hok⟩ := hok
    refine callVIp X S hl (c_Mo_load (v1 + (4 : Int32)) _ g6) v_Mo_77 0 6 ⟨rfl, rfl⟩ (rk_dec (by decide)) rfl rfl (Nat.le_of_ble_eq_true rfl) d_Mo_comeBack_27 (fun H locs S => ?_)
    refine st_M_2 (k := 1) hx hb hK S (vin_dec (by decide)) (by decide) d_Mo_comeBack_30 (fun H locs S => ?_)
    refine lv_iinc (k := 3) (v := (2 : Int32)) hx hb d_Mo_comeBack_31 hl rfl (by first | rfl | decide) (by decide) rfl (fun ls hl => ?_)
    refine lv_goto (tgt := 11) hx hb d_Mo_comeBack_34 rfl ?_
    exact B_Mo_comeBack_11_2 _ _ _ _ _ _ hok (lv_sub hl [1, 2, 3, 0] rfl) S hq
  have B_Mo_comeBack_11_0 : ∀ (v1 : Int32) (v2 : Int32) (σ : nS) (H : Heap) (locs : List Loc) (ls : Array Slot), (o_Mo_comeBack_11_0 v1 v2 σ) → lv_has ls 4 [(0, .ref (a 0)), (1, .int v1), (2, .int v2), (3, .int (0 : Int32))] → St D (wM cI cZ a) A s σ H locs → F = s_Mo_comeBack_11_0 v1 v2 σ → W p l e ({ frames := 1, cells := 0, slots := 0, locals := 21 } : Room) s m args below meth c H locs 0 0 Q (F0 m 11 ls []) := by
    intro v1 v2 σ H locs ls hok hl S hq
    refine lv_iload_n hx hb d_Mo_comeBack_11 rfl (lv_at hl 3 rfl) ?_
    refine lv_iconst (v := 4) hx hb d_Mo_comeBack_12 (by decide) ?_
    refine lv_icmp_ge (tgt := 37) hx hb d_Mo_comeBack_13 rfl (fun h9 => absurd h9 (by decide)) (fun _ => ?_)
    refine lv_aload_n hx hb d_Mo_comeBack_16 rfl (lv_at hl 0 rfl) ?_
    refine g_Mo_13 hx hb hts hown hK S.1 d_Mo_comeBack_17 ?_
    refine lv_iload_n hx hb d_Mo_comeBack_20 rfl (lv_at hl 3 rfl) ?_
    refine lv_aload_n hx hb d_Mo_comeBack_21 rfl (lv_at hl 0 rfl) ?_
    refine lv_iload_n hx hb d_Mo_comeBack_22 rfl (lv_at hl 1 rfl) ?_
    refine lv_iconst (v := 4) hx hb d_Mo_comeBack_23 (by decide) ?_
    refine lv_iload_n hx hb d_Mo_comeBack_24 rfl (lv_at hl 3 rfl) ?_
    refine lv_imul hx hb d_Mo_comeBack_25 ?_
    refine r_ci (v := 0) (by decide) ?_
    refine lv_iadd hx hb d_Mo_comeBack_26 ?_
    obtain ⟨g7, hok⟩ := hok
    refine callVIp X S hl (c_Mo_load (v1 + (0 : Int32)) _ g7) v_Mo_77 0 6 ⟨rfl, rfl⟩ (rk_dec (by decide)) rfl rfl (Nat.le_of_ble_eq_true rfl) d_Mo_comeBack_27 (fun H locs S => ?_)
    refine st_M_2 (k := 0) hx hb hK S (vin_dec (by decide)) (by decide) d_Mo_comeBack_30 (fun H locs S => ?_)
    refine lv_iinc (k := 3) (v := (1 : Int32)) hx hb d_Mo_comeBack_31 hl rfl (by first | rfl | decide) (by decide) rfl (fun ls hl => ?_)
    refine lv_goto (tgt := 11) hx hb d_Mo_comeBack_34 rfl ?_
    exact B_Mo_comeBack_11_1 _ _ _ _ _ _ hok (lv_sub hl [1, 2, 3, 0] rfl) S hq
  refine lv_aload_n hx hb d_Mo_comeBack_0 rfl (lv_at hl 0 rfl) ?_
  refine lv_iload_n hx hb d_Mo_comeBack_1 rfl (lv_at hl 1 rfl) ?_
  refine lv_bipush (v := 28) hx hb d_Mo_comeBack_2 (by decide) ?_
  refine lv_iadd hx hb d_Mo_comeBack_4 ?_
  obtain ⟨g8, hok⟩ := hok
  refine callVIp X S hl (c_Mo_load (v1 + (28 : Int32)) _ g8) v_Mo_77 0 6 ⟨rfl, rfl⟩ (rk_dec (by decide)) rfl rfl (Nat.le_of_ble_eq_true rfl) d_Mo_comeBack_5 (fun H locs S => ?_)
  refine lv_istore_n hx hb d_Mo_comeBack_8 rfl hl (by decide) rfl (fun ls hl => ?_)
  refine lv_iconst (v := 0) hx hb d_Mo_comeBack_9 (by decide) ?_
  refine lv_istore_n hx hb d_Mo_comeBack_10 rfl hl (by decide) rfl (fun ls hl => ?_)
  exact B_Mo_comeBack_11_0 _ _ _ _ _ _ hok (lv_sub hl [2, 3, 1, 0] rfl) S hq
set_option maxHeartbeats 4000000 in
set_option maxRecDepth 100000 in
theorem c_Mo_isReturn (v1 : Int32) (σ : nS) : CtZ l D cI cZ (wM cI cZ a) exM y_Mo_isReturn b_Mo_isReturn 2 { frames := 0, cells := 0, slots := 0, locals := 0 } [.ref (a 0), .int v1] σ (s_Mo_isReturn v1 σ, σ) := by
  generalize hF : s_Mo_isReturn v1 σ = F
  refine metZp exM_ok (by decide) (Nat.le_of_ble_eq_true rfl) (fun p e s m args below meth c A Q ls X S hl ret => ?_)
  have hq := hF.symm
  obtain ⟨hx, hb, hml, hown, hts, hK, hA, hE, hlk, hEo⟩ := id X
  have hl : lv_has ls 2 [(0, .ref (a 0)), (1, .int v1)] := hl
  have B_Mo_isReturn_23 : ∀ (H : Heap) (locs : List Loc) (ls : Array Slot), lv_has ls 2 [] → St D (wM cI cZ a) A s σ H locs → F = s_Mo_isReturn_23 σ → W p l e ({ frames := 0, cells := 0, slots := 0, locals := 0 } : Room) s m args below meth c H locs 0 0 Q (F0 m 23 ls []) := by
    intro H locs ls hl S hq
    refine lv_iconst (v := 0) hx hb d_Mo_isReturn_23 (by decide) ?_
    exact ret _ _ _ _ false S hq d_Mo_isReturn_24
  have B_Mo_isReturn_19 : ∀ (H : Heap) (locs : List Loc) (ls : Array Slot), lv_has ls 2 [] → St D (wM cI cZ a) A s σ H locs → F = s_Mo_isReturn_19 σ → W p l e ({ frames := 0, cells := 0, slots := 0, locals := 0 } : Room) s m args below meth c H locs 0 0 Q (F0 m 19 ls []) := by
    intro H locs ls hl S hq
    refine lv_iconst (v := 1) hx hb d_Mo_isReturn_19 (by decide) ?_
    refine lv_goto (tgt := 24) hx hb d_Mo_isReturn_20 rfl ?_
    exact ret _ _ _ _ true S hq d_Mo_isReturn_24
  refine lv_aload_n hx hb d_Mo_isReturn_0 rfl (lv_at hl 0 rfl) ?_
  refine g_Mo_74 hx hb hts hown hK S.1 d_Mo_isReturn_1 ?_
  refine lv_if_eq (tgt := 23) hx hb d_Mo_isReturn_4 rfl (fun h4 => ?_) (fun h4 => ?_)
  · have hq := hq.trans (if_pos h4)
    exact B_Mo_isReturn_23 _ _ _ (lv_sub hl [] rfl) S hq
  · have hq := hq.trans (if_neg h4)
    refine lv_iload_n hx hb d_Mo_isReturn_7 rfl (lv_at hl 1 rfl) ?_
    refine lv_bipush (v := -7) hx hb d_Mo_isReturn_8 (by decide) ?_
    refine lv_icmp_eq (tgt := 19) hx hb d_Mo_isReturn_10 rfl (fun h10 => ?_) (fun h10 => ?_)
    · have hq := hq.trans (if_pos h10)
      exact B_Mo_isReturn_19 _ _ _ (lv_sub hl [] rfl) S hq
    · have hq := hq.trans (if_neg h10)
      refine lv_iload_n hx hb d_Mo_isReturn_13 rfl (lv_at hl 1 rfl) ?_
      refine lv_bipush (v := -15) hx hb d_Mo_isReturn_14 (by decide) ?_
      refine lv_icmp_ne (tgt := 23) hx hb d_Mo_isReturn_16 rfl (fun h16 => ?_) (fun h16 => ?_)
      · have hq := hq.trans (if_neg h16)
        exact B_Mo_isReturn_23 _ _ _ (lv_sub hl [] rfl) S hq
      · have hq := hq.trans (if_pos h16)
        exact B_Mo_isReturn_19 _ _ _ (lv_sub hl [] rfl) S hq
set_option maxHeartbeats 4000000 in
set_option maxRecDepth 100000 in
theorem c_Mo_fault (v1 : Int32) (σ : nS) (qv1_16 : vp_in v1 16) : CtV l D cI cZ (wM cI cZ a) exM y_Mo_fault b_Mo_fault 3 { frames := 2, cells := 0, slots := 0, locals := 43 } [.ref (a 0), .int v1] σ (s_Mo_fault v1 σ) := by
  generalize hF : s_Mo_fault v1 σ = F
  refine metV exM_ok (by decide) (Nat.le_of_ble_eq_true rfl) (fun p e s m args below meth c A Q ls X S hl ret => ?_)
  have hq := hF.symm
  obtain ⟨hx, hb, hml, hown, hts, hK, hA, hE, hlk, hEo⟩ := id X
  have hl : lv_has ls 3 [(0, .ref (a 0)), (1, .int v1)] := hl
  have B_Mo_fault_48 : ∀ (v2 : Int32) (σ : nS) (H : Heap) (locs : List Loc) (ls : Array Slot), lv_has ls 3 [(0, .ref (a 0)), (2, .int v2)] → St D (wM cI cZ a) A s σ H locs → F = s_Mo_fault_48 v2 σ → W p l e ({ frames := 2, cells := 0, slots := 0, locals := 43 } : Room) s m args below meth c H locs 0 0 Q (F0 m 48 ls []) := by
    intro v2 σ H locs ls hl S hq
    refine lv_iload_n hx hb d_Mo_fault_48 rfl (lv_at hl 1 rfl) ?_
    refine lv_iconst (v := -1) hx hb d_Mo_fault_49 (by decide) ?_
    refine lv_icmp_le (tgt := 63) hx hb d_Mo_fault_50 rfl (fun h50 => ?_) (fun h50 => ?_)
    · have hq := hq.trans (if_pos h50)
      refine lv_aload_n hx hb d_Mo_fault_63 rfl (lv_at hl 0 rfl) ?_
      refine lv_iconst (v := 1) hx hb d_Mo_fault_64 (by decide) ?_
      refine p_Mo_99 hx hb hts hown hK S d_Mo_fault_65 (fun H locs S => ?_)
      exact ret _ _ _ _ _ S hq d_Mo_fault_68
    · have hq := hq.trans (if_neg h50)
      refine lv_aload_n hx hb d_Mo_fault_53 rfl (lv_at hl 0 rfl) ?_
      refine g_Mo_23 hx hb hts hown hK S.1 d_Mo_fault_54 ?_
      refine lv_iconst (v := 3) hx hb d_Mo_fault_57 (by decide) ?_
      refine lv_iconst (v := 1) hx hb d_Mo_fault_58 (by decide) ?_
      refine st_M_5 (k := 3) (b := true) hx hb hK S (vin_dec (by decide)) (by decide) d_Mo_fault_59 (fun H locs S => ?_)
      refine lv_goto (tgt := 68) hx hb d_Mo_fault_60 rfl ?_
      exact ret _ _ _ _ _ S hq d_Mo_fault_68
  refine lv_aload_n hx hb d_Mo_fault_0 rfl (lv_at hl 0 rfl) ?_
  refine lv_dup hx hb d_Mo_fault_1 rfl ?_
  refine g_Mo_120 hx hb hts hown hK S.1 d_Mo_fault_2 ?_
  refine lv_iconst (v := 1) hx hb d_Mo_fault_5 (by decide) ?_
  refine lv_iadd hx hb d_Mo_fault_6 ?_
  refine p_Mo_120 hx hb hts hown hK S d_Mo_fault_7 (fun H locs S => ?_)
  refine lv_aload_n hx hb d_Mo_fault_10 rfl (lv_at hl 0 rfl) ?_
  refine callVIp X S hl (c_Mo_level _) v_Mo_70 0 6 ⟨rfl, rfl⟩ (rk_dec (by decide)) rfl rfl (Nat.le_of_ble_eq_true rfl) d_Mo_fault_11 (fun H locs S => ?_)
  refine lv_istore_n hx hb d_Mo_fault_14 rfl hl (by decide) rfl (fun ls hl => ?_)
  refine lv_aload_n hx hb d_Mo_fault_15 rfl (lv_at hl 1 rfl) ?_
  refine g_Mo_19 hx hb hts hown hK S.1 d_Mo_fault_16 ?_
  refine lv_iload_n hx hb d_Mo_fault_19 rfl (lv_at hl 2 rfl) ?_
  refine ld_M_4 (k := (v1).toNatClampNeg) hx hb hK S.1 qv1_16 rfl d_Mo_fault_20 ?_
  refine lv_if_eq (tgt := 48) hx hb d_Mo_fault_21 rfl (fun h21 => ?_) (fun h21 => ?_)
  · have hq := hq.trans (if_pos h21)
    exact B_Mo_fault_48 _ _ _ _ _ (lv_sub hl [1, 0] rfl) S hq
  · have hq := hq.trans (if_neg h21)
    refine lv_aload_n hx hb d_Mo_fault_24 rfl (lv_at hl 1 rfl) ?_
    refine lv_aload_n hx hb d_Mo_fault_25 rfl (lv_at hl 1 rfl) ?_
    refine g_Mo_16 hx hb hts hown hK S.1 d_Mo_fault_26 ?_
    refine lv_iload_n hx hb d_Mo_fault_29 rfl (lv_at hl 2 rfl) ?_
    refine ld_M_3 (k := (v1).toNatClampNeg) hx hb hK S.1 qv1_16 rfl d_Mo_fault_30 ?_
    refine callVIp X S hl (c_Mo_group ((up2 σ 8 14 ((σ 8 14) + (1 : Int32))) 4 (v1).toNatClampNeg) _) v_Mo_56 0 6 ⟨rfl, rfl⟩ (rk_dec (by decide)) rfl rfl (Nat.le_of_ble_eq_true rfl) d_Mo_fault_31 (fun H locs S => ?_)
    refine lv_iload_n hx hb d_Mo_fault_34 rfl (lv_at hl 0 rfl) ?_
    refine lv_icmp_ge (tgt := 48) hx hb d_Mo_fault_35 rfl (fun h35 => ?_) (fun h35 => ?_)
    · have hq := hq.trans (if_pos h35)
      exact B_Mo_fault_48 _ _ _ _ _ (lv_sub hl [1, 0] rfl) S hq
    · have hq := hq.trans (if_neg h35)
      refine lv_aload_n hx hb d_Mo_fault_38 rfl (lv_at hl 1 rfl) ?_
      refine g_Mo_23 hx hb hts hown hK S.1 d_Mo_fault_39 ?_
      refine lv_iload_n hx hb d_Mo_fault_42 rfl (lv_at hl 2 rfl) ?_
      refine lv_iconst (v := 1) hx hb d_Mo_fault_43 (by decide) ?_
      refine st_M_5 (k := (v1).toNatClampNeg) (b := true) hx hb hK S qv1_16 rfl d_Mo_fault_44 (fun H locs S => ?_)
      refine lv_goto (tgt := 68) hx hb d_Mo_fault_45 rfl ?_
      exact ret _ _ _ _ _ S hq d_Mo_fault_68
set_option maxHeartbeats 4000000 in
set_option maxRecDepth 100000 in
theorem c_Mo_test (v1 : Int32) (σ : nS) : CtV l D cI cZ (wM cI cZ a) exM y_Mo_test b_Mo_test 2 { frames := 0, cells := 0, slots := 0, locals := 0 } [.ref (a 0), .int v1] σ (s_Mo_test v1 σ) := by
  generalize hF : s_Mo_test v1 σ = F
  refine metV exM_ok (by decide) (Nat.le_of_ble_eq_true rfl) (fun p e s m args below meth c A Q ls X S hl ret => ?_)
  have hq := hF.symm
  obtain ⟨hx, hb, hml, hown, hts, hK, hA, hE, hlk, hEo⟩ := id X
  have hl : lv_has ls 2 [(0, .ref (a 0)), (1, .int v1)] := hl
  have B_Mo_test_23 : ∀ (k1 : Bool) (σ : nS) (H : Heap) (locs : List Loc) (ls : Array Slot), lv_has ls 2 [] → St D (wM cI cZ a) A s σ H locs → F = s_Mo_test_23 k1 σ → W p l e ({ frames := 0, cells := 0, slots := 0, locals := 0 } : Room) s m args below meth c H locs 0 0 Q (F0 m 23 ls [.int (bI k1), .ref (a 0)]) := by
    intro k1 σ H locs ls hl S hq
    refine p_Mo_84 (b := k1) hx hb hts hown hK S d_Mo_test_23 (fun H locs S => ?_)
    exact ret _ _ _ _ _ S hq d_Mo_test_26
  have B_Mo_test_10 : ∀ (v1 : Int32) (k1 : Bool) (σ : nS) (H : Heap) (locs : List Loc) (ls : Array Slot), lv_has ls 2 [(0, .ref (a 0)), (1, .int v1)] → St D (wM cI cZ a) A s σ H locs → F = s_Mo_test_10 v1 k1 σ → W p l e ({ frames := 0, cells := 0, slots := 0, locals := 0 } : Room) s m args below meth c H locs 0 0 Q (F0 m 10 ls [.int (bI k1), .ref (a 0)]) := by
    intro v1 k1 σ H locs ls hl S hq
    refine p_Mo_80 (b := k1) hx hb hts hown hK S d_Mo_test_10 (fun H locs S => ?_)
    refine lv_aload_n hx hb d_Mo_test_13 rfl (lv_at hl 0 rfl) ?_
    refine lv_iload_n hx hb d_Mo_test_14 rfl (lv_at hl 1 rfl) ?_
    refine lv_if_ne (tgt := 22) hx hb d_Mo_test_15 rfl (fun h15 => ?_) (fun h15 => ?_)
    · have hq := hq.trans (if_neg h15)
      refine lv_iconst (v := 0) hx hb d_Mo_test_22 (by decide) ?_
      exact B_Mo_test_23 false _ _ _ _ (lv_sub hl [] rfl) S hq
    · have hq := hq.trans (if_pos h15)
      refine lv_iconst (v := 1) hx hb d_Mo_test_18 (by decide) ?_
      refine lv_goto (tgt := 23) hx hb d_Mo_test_19 rfl ?_
      exact B_Mo_test_23 true _ _ _ _ (lv_sub hl [] rfl) S hq
  refine lv_aload_n hx hb d_Mo_test_0 rfl (lv_at hl 0 rfl) ?_
  refine lv_iload_n hx hb d_Mo_test_1 rfl (lv_at hl 1 rfl) ?_
  refine lv_if_ge (tgt := 9) hx hb d_Mo_test_2 rfl (fun h2 => ?_) (fun h2 => ?_)
  · have hq := hq.trans (if_pos h2)
    refine lv_iconst (v := 0) hx hb d_Mo_test_9 (by decide) ?_
    exact B_Mo_test_10 _ false _ _ _ _ (lv_sub hl [0, 1] rfl) S hq
  · have hq := hq.trans (if_neg h2)
    refine lv_iconst (v := 1) hx hb d_Mo_test_5 (by decide) ?_
    refine lv_goto (tgt := 10) hx hb d_Mo_test_6 rfl ?_
    exact B_Mo_test_10 _ true _ _ _ _ (lv_sub hl [0, 1] rfl) S hq
set_option maxHeartbeats 4000000 in
set_option maxRecDepth 100000 in
theorem c_Mo_sum (v1 : Int32) (v2 : Int32) (v3 : Int32) (σ : nS) : CtI l D cI cZ (wM cI cZ a) exM y_Mo_sum b_Mo_sum 9 { frames := 1, cells := 0, slots := 0, locals := 21 } [.ref (a 0), .int v1, .int v2, .int v3] σ (s_Mo_sum v1 v2 v3 σ) := by
  generalize hF : s_Mo_sum v1 v2 v3 σ = F
  refine metI exM_ok (by decide) (Nat.le_of_ble_eq_true rfl) (fun p e s m args below meth c A Q ls X S hl ret => ?_)
  have hq := hF.symm
  obtain ⟨hx, hb, hml, hown, hts, hK, hA, hE, hlk, hEo⟩ := id X
  have hl : lv_has ls 9 [(0, .ref (a 0)), (1, .int v1), (2, .int v2), (3, .int v3)] := hl
  have B_Mo_sum_73 : ∀ (v8 : Int32) (k1 : Bool) (σ : nS) (H : Heap) (locs : List Loc) (ls : Array Slot), lv_has ls 9 [(8, .int v8)] → St D (wM cI cZ a) A s σ H locs → F = s_Mo_sum_73 v8 k1 σ → W p l e ({ frames := 1, cells := 0, slots := 0, locals := 21 } : Room) s m args below meth c H locs 0 0 Q (F0 m 73 ls [.int (bI k1), .ref (a 0)]) := by
    intro v8 k1 σ H locs ls hl S hq
    refine p_Mo_92 (b := k1) hx hb hts hown hK S d_Mo_sum_73 (fun H locs S => ?_)
    refine lv_iload hx hb d_Mo_sum_76 (lv_at hl 0 rfl) ?_
    exact ret _ _ _ _ _ _ S hq d_Mo_sum_78
  have B_Mo_sum_55 : ∀ (v6 : Int64) (v8 : Int32) (k1 : Bool) (σ : nS) (H : Heap) (locs : List Loc) (ls : Array Slot), lv_has ls 9 [(0, .ref (a 0)), (6, .long v6), (8, .int v8)] → St D (wM cI cZ a) A s σ H locs → F = s_Mo_sum_55 v6 v8 k1 σ → W p l e ({ frames := 1, cells := 0, slots := 0, locals := 21 } : Room) s m args below meth c H locs 0 0 Q (F0 m 55 ls [.int (bI k1), .ref (a 0)]) := by
    intro v6 v8 k1 σ H locs ls hl S hq
    refine p_Mo_88 (b := k1) hx hb hts hown hK S d_Mo_sum_55 (fun H locs S => ?_)
    refine lv_aload_n hx hb d_Mo_sum_58 rfl (lv_at hl 0 rfl) ?_
    refine lv_lload hx hb d_Mo_sum_59 (lv_at hl 1 rfl) ?_
    refine lv_iload hx hb d_Mo_sum_61 (lv_at hl 2 rfl) ?_
    refine lv_i2l hx hb d_Mo_sum_63 rfl ?_
    refine W.lcmp hx hb d_Mo_sum_64 ?_
    refine lv_if_eq (tgt := 72) hx hb d_Mo_sum_65 rfl (fun h65 => ?_) (fun h65 => ?_)
    · have hq := hq.trans (if_pos h65)
      refine lv_iconst (v := 0) hx hb d_Mo_sum_72 (by decide) ?_
      exact B_Mo_sum_73 _ false _ _ _ _ (lv_sub hl [2] rfl) S hq
    · have hq := hq.trans (if_neg h65)
      refine lv_iconst (v := 1) hx hb d_Mo_sum_68 (by decide) ?_
      refine lv_goto (tgt := 73) hx hb d_Mo_sum_69 rfl ?_
      exact B_Mo_sum_73 _ true _ _ _ _ (lv_sub hl [2] rfl) S hq
  refine lv_iload_n hx hb d_Mo_sum_0 rfl (lv_at hl 1 rfl) ?_
  refine lv_i2l hx hb d_Mo_sum_1 rfl ?_
  refine lv_ldc2 (v := 4294967295) hx hb hown (hts _ k_12) d_Mo_sum_2 ?_
  refine lv_land hx hb d_Mo_sum_5 ?_
  refine lv_iload_n hx hb d_Mo_sum_6 rfl (lv_at hl 2 rfl) ?_
  refine lv_i2l hx hb d_Mo_sum_7 rfl ?_
  refine lv_ldc2 (v := 4294967295) hx hb hown (hts _ k_12) d_Mo_sum_8 ?_
  refine lv_land hx hb d_Mo_sum_11 ?_
  refine lv_ladd hx hb d_Mo_sum_12 ?_
  refine lv_iload_n hx hb d_Mo_sum_13 rfl (lv_at hl 3 rfl) ?_
  refine lv_i2l hx hb d_Mo_sum_14 rfl ?_
  refine lv_ladd hx hb d_Mo_sum_15 ?_
  refine lv_lstore hx hb d_Mo_sum_16 hl (by decide) rfl (fun ls hl => ?_)
  refine lv_iload_n hx hb d_Mo_sum_18 rfl (lv_at hl 2 rfl) ?_
  refine lv_i2l hx hb d_Mo_sum_19 rfl ?_
  refine lv_iload_n hx hb d_Mo_sum_20 rfl (lv_at hl 3 rfl) ?_
  refine lv_i2l hx hb d_Mo_sum_21 rfl ?_
  refine lv_ladd hx hb d_Mo_sum_22 ?_
  refine lv_iload_n hx hb d_Mo_sum_23 rfl (lv_at hl 4 rfl) ?_
  refine lv_i2l hx hb d_Mo_sum_24 rfl ?_
  refine lv_ladd hx hb d_Mo_sum_25 ?_
  refine lv_lstore hx hb d_Mo_sum_26 hl (by decide) rfl (fun ls hl => ?_)
  refine lv_lload hx hb d_Mo_sum_28 (lv_at hl 1 rfl) ?_
  refine lv_l2i hx hb d_Mo_sum_30 rfl ?_
  refine lv_istore hx hb d_Mo_sum_31 hl (by decide) rfl (fun ls hl => ?_)
  refine lv_aload_n hx hb d_Mo_sum_33 rfl (lv_at hl 3 rfl) ?_
  refine lv_iload hx hb d_Mo_sum_34 (lv_at hl 0 rfl) ?_
  refine callVV X S hl (c_Mo_test (((((v1).toInt64 &&& (4294967295 : Int64)) + ((v2).toInt64 &&& (4294967295 : Int64))) + (v3).toInt64)).toInt32 _) v_Mo_125 0 6 ⟨rfl, rfl⟩ (rk_dec (by decide)) rfl rfl (Nat.le_of_ble_eq_true rfl) d_Mo_sum_36 (fun σ1 H locs e1 S => ?_)
  have hq := hq.trans (ap1_eq e1)
  refine lv_aload_n hx hb d_Mo_sum_39 rfl (lv_at hl 3 rfl) ?_
  refine lv_lload hx hb d_Mo_sum_40 (lv_at hl 2 rfl) ?_
  refine lv_bipush (v := 32) hx hb d_Mo_sum_42 (by decide) ?_
  refine lv_lshr hx hb d_Mo_sum_44 rfl ?_
  refine lv_lconst (v := 0) hx hb d_Mo_sum_45 (by decide) ?_
  refine W.lcmp hx hb d_Mo_sum_46 ?_
  refine lv_if_eq (tgt := 54) hx hb d_Mo_sum_47 rfl (fun h47 => ?_) (fun h47 => ?_)
  · have hq := hq.trans (if_pos h47)
    refine lv_iconst (v := 0) hx hb d_Mo_sum_54 (by decide) ?_
    exact B_Mo_sum_55 _ _ false _ _ _ _ (lv_sub hl [3, 1, 0] rfl) S hq
  · have hq := hq.trans (if_neg h47)
    refine lv_iconst (v := 1) hx hb d_Mo_sum_50 (by decide) ?_
    refine lv_goto (tgt := 55) hx hb d_Mo_sum_51 rfl ?_
    exact B_Mo_sum_55 _ _ true _ _ _ _ (lv_sub hl [3, 1, 0] rfl) S hq
set_option maxHeartbeats 4000000 in
set_option maxRecDepth 100000 in
theorem c_Mo_shift (v1 : Int32) (σ : nS) : CtI l D cI cZ (wM cI cZ a) exM y_Mo_shift b_Mo_shift 6 { frames := 1, cells := 0, slots := 0, locals := 21 } [.ref (a 0), .int v1] σ (s_Mo_shift v1 σ) := by
  generalize hF : s_Mo_shift v1 σ = F
  refine metI exM_ok (by decide) (Nat.le_of_ble_eq_true rfl) (fun p e s m args below meth c A Q ls X S hl ret => ?_)
  have hq := hF.symm
  obtain ⟨hx, hb, hml, hown, hts, hK, hA, hE, hlk, hEo⟩ := id X
  have hl : lv_has ls 6 [(0, .ref (a 0)), (1, .int v1)] := hl
  have B_Mo_shift_98 : ∀ (v1 : Int32) (k0 : Int32) (σ : nS) (H : Heap) (locs : List Loc) (ls : Array Slot), lv_has ls 6 [(0, .ref (a 0)), (1, .int v1)] → St D (wM cI cZ a) A s σ H locs → F = s_Mo_shift_98 v1 k0 σ → W p l e ({ frames := 1, cells := 0, slots := 0, locals := 21 } : Room) s m args below meth c H locs 0 0 Q (F0 m 98 ls [.int k0]) := by
    intro v1 k0 σ H locs ls hl S hq
    refine lv_istore hx hb d_Mo_shift_98 hl (by decide) rfl (fun ls hl => ?_)
    refine lv_aload_n hx hb d_Mo_shift_100 rfl (lv_at hl 1 rfl) ?_
    refine lv_iload hx hb d_Mo_shift_101 (lv_at hl 0 rfl) ?_
    refine callVV X S hl (c_Mo_test k0 _) v_Mo_125 0 6 ⟨rfl, rfl⟩ (rk_dec (by decide)) rfl rfl (Nat.le_of_ble_eq_true rfl) d_Mo_shift_103 (fun σ1 H locs e1 S => ?_)
    have hq := hq.trans (ap1_eq e1)
    refine lv_aload_n hx hb d_Mo_shift_106 rfl (lv_at hl 1 rfl) ?_
    refine g_Mo_13 hx hb hts hown hK S.1 d_Mo_shift_107 ?_
    refine lv_iload_n hx hb d_Mo_shift_110 rfl (lv_at hl 2 rfl) ?_
    refine lv_bipush (v := 7) hx hb d_Mo_shift_111 (by decide) ?_
    refine lv_iand hx hb d_Mo_shift_113 ?_
    refine lv_iload hx hb d_Mo_shift_114 (lv_at hl 0 rfl) ?_
    refine st_M_2 (k := ((v1 &&& (7 : Int32))).toNatClampNeg) hx hb hK S (vin_and7_16 _) rfl d_Mo_shift_116 (fun H locs S => ?_)
    refine lv_iconst (v := 0) hx hb d_Mo_shift_117 (by decide) ?_
    exact ret _ _ _ _ _ _ S hq d_Mo_shift_118
  have B_Mo_shift_64 : ∀ (v1 : Int32) (v2 : Int32) (v3 : Int32) (v4 : Int32) (σ : nS) (H : Heap) (locs : List Loc) (ls : Array Slot), lv_has ls 6 [(0, .ref (a 0)), (1, .int v1), (2, .int v2), (3, .int v3), (4, .int v4)] → St D (wM cI cZ a) A s σ H locs → F = s_Mo_shift_64 v1 v2 v3 v4 σ → W p l e ({ frames := 1, cells := 0, slots := 0, locals := 21 } : Room) s m args below meth c H locs 0 0 Q (F0 m 64 ls []) := by
    intro v1 v2 v3 v4 σ H locs ls hl S hq
    refine lv_iload_n hx hb d_Mo_shift_64 rfl (lv_at hl 2 rfl) ?_
    refine lv_if_ne (tgt := 72) hx hb d_Mo_shift_65 rfl (fun h65 => ?_) (fun h65 => ?_)
    · have hq := hq.trans (if_neg h65)
      refine lv_iload hx hb d_Mo_shift_72 (lv_at hl 4 rfl) ?_
      refine lv_if_ne (tgt := 83) hx hb d_Mo_shift_74 rfl (fun h74 => ?_) (fun h74 => ?_)
      · have hq := hq.trans (if_neg h74)
        refine lv_iload hx hb d_Mo_shift_83 (lv_at hl 4 rfl) ?_
        refine lv_iconst (v := 1) hx hb d_Mo_shift_85 (by decide) ?_
        refine lv_icmp_ne (tgt := 95) hx hb d_Mo_shift_86 rfl (fun h86 => ?_) (fun h86 => ?_)
        · have hq := hq.trans (if_neg h86)
          refine lv_iload_n hx hb d_Mo_shift_95 rfl (lv_at hl 3 rfl) ?_
          refine lv_iload_n hx hb d_Mo_shift_96 rfl (lv_at hl 2 rfl) ?_
          refine lv_ishr hx hb d_Mo_shift_97 ?_
          exact B_Mo_shift_98 _ _ _ _ _ _ (lv_sub hl [0, 1] rfl) S hq
        · have hq := hq.trans (if_pos h86)
          refine lv_iload_n hx hb d_Mo_shift_89 rfl (lv_at hl 3 rfl) ?_
          refine lv_iload_n hx hb d_Mo_shift_90 rfl (lv_at hl 2 rfl) ?_
          refine r_iushr hx hb d_Mo_shift_91 ?_
          refine lv_goto (tgt := 98) hx hb d_Mo_shift_92 rfl ?_
          exact B_Mo_shift_98 _ _ _ _ _ _ (lv_sub hl [0, 1] rfl) S hq
      · have hq := hq.trans (if_pos h74)
        refine lv_iload_n hx hb d_Mo_shift_77 rfl (lv_at hl 3 rfl) ?_
        refine lv_iload_n hx hb d_Mo_shift_78 rfl (lv_at hl 2 rfl) ?_
        refine lv_ishl hx hb d_Mo_shift_79 ?_
        refine lv_goto (tgt := 98) hx hb d_Mo_shift_80 rfl ?_
        exact B_Mo_shift_98 _ _ _ _ _ _ (lv_sub hl [0, 1] rfl) S hq
    · have hq := hq.trans (if_pos h65)
      refine lv_iload_n hx hb d_Mo_shift_68 rfl (lv_at hl 3 rfl) ?_
      refine lv_goto (tgt := 98) hx hb d_Mo_shift_69 rfl ?_
      exact B_Mo_shift_98 _ _ _ _ _ _ (lv_sub hl [0, 1] rfl) S hq
  have B_Mo_shift_61 : ∀ (v1 : Int32) (v2 : Int32) (v3 : Int32) (v4 : Int32) (k1 : Bool) (σ : nS) (H : Heap) (locs : List Loc) (ls : Array Slot), lv_has ls 6 [(0, .ref (a 0)), (1, .int v1), (2, .int v2), (3, .int v3), (4, .int v4)] → St D (wM cI cZ a) A s σ H locs → F = s_Mo_shift_61 v1 v2 v3 v4 k1 σ → W p l e ({ frames := 1, cells := 0, slots := 0, locals := 21 } : Room) s m args below meth c H locs 0 0 Q (F0 m 61 ls [.int (bI k1), .ref (a 0)]) := by
    intro v1 v2 v3 v4 k1 σ H locs ls hl S hq
    refine p_Mo_88 (b := k1) hx hb hts hown hK S d_Mo_shift_61 (fun H locs S => ?_)
    exact B_Mo_shift_64 _ _ _ _ _ _ _ _ (lv_sub hl [0, 1, 2, 3, 4] rfl) S hq
  have B_Mo_shift_50 : ∀ (v1 : Int32) (v2 : Int32) (v3 : Int32) (v4 : Int32) (k1 : Int32) (σ : nS) (H : Heap) (locs : List Loc) (ls : Array Slot), lv_has ls 6 [(0, .ref (a 0)), (1, .int v1), (2, .int v2), (3, .int v3), (4, .int v4)] → St D (wM cI cZ a) A s σ H locs → F = s_Mo_shift_50 v1 v2 v3 v4 k1 σ → W p l e ({ frames := 1, cells := 0, slots := 0, locals := 21 } : Room) s m args below meth c H locs 0 0 Q (F0 m 50 ls [.int k1, .ref (a 0)]) := by
    intro v1 v2 v3 v4 k1 σ H locs ls hl S hq
    refine lv_iconst (v := 1) hx hb d_Mo_shift_50 (by decide) ?_
    refine lv_iand hx hb d_Mo_shift_51 ?_
    refine lv_iconst (v := 1) hx hb d_Mo_shift_52 (by decide) ?_
    refine lv_icmp_ne (tgt := 60) hx hb d_Mo_shift_53 rfl (fun h53 => ?_) (fun h53 => ?_)
    · have hq := hq.trans (if_neg h53)
      refine lv_iconst (v := 0) hx hb d_Mo_shift_60 (by decide) ?_
      exact B_Mo_shift_61 _ _ _ _ false _ _ _ _ (lv_sub hl [0, 1, 2, 3, 4] rfl) S hq
    · have hq := hq.trans (if_pos h53)
      refine lv_iconst (v := 1) hx hb d_Mo_shift_56 (by decide) ?_
      refine lv_goto (tgt := 61) hx hb d_Mo_shift_57 rfl ?_
      exact B_Mo_shift_61 _ _ _ _ true _ _ _ _ (lv_sub hl [0, 1, 2, 3, 4] rfl) S hq
  refine lv_iload_n hx hb d_Mo_shift_0 rfl (lv_at hl 1 rfl) ?_
  refine lv_bipush (v := 6) hx hb d_Mo_shift_1 (by decide) ?_
  refine lv_ishr hx hb d_Mo_shift_3 ?_
  refine lv_bipush (v := 31) hx hb d_Mo_shift_4 (by decide) ?_
  refine lv_iand hx hb d_Mo_shift_6 ?_
  refine lv_istore_n hx hb d_Mo_shift_7 rfl hl (by decide) rfl (fun ls hl => ?_)
  refine lv_aload_n hx hb d_Mo_shift_8 rfl (lv_at hl 1 rfl) ?_
  refine g_Mo_13 hx hb hts hown hK S.1 d_Mo_shift_9 ?_
  refine lv_iload_n hx hb d_Mo_shift_12 rfl (lv_at hl 2 rfl) ?_
  refine lv_iconst (v := 3) hx hb d_Mo_shift_13 (by decide) ?_
  refine lv_ishr hx hb d_Mo_shift_14 ?_
  refine lv_bipush (v := 7) hx hb d_Mo_shift_15 (by decide) ?_
  refine lv_iand hx hb d_Mo_shift_17 ?_
  refine ld_M_2 (k := (((v1 >>> ((3 : Int32) &&& 31)) &&& (7 : Int32))).toNatClampNeg) hx hb hK S.1 (vin_and7_16 _) rfl d_Mo_shift_18 ?_
  refine lv_istore_n hx hb d_Mo_shift_19 rfl hl (by decide) rfl (fun ls hl => ?_)
  refine lv_iload_n hx hb d_Mo_shift_20 rfl (lv_at hl 3 rfl) ?_
  refine lv_bipush (v := 11) hx hb d_Mo_shift_21 (by decide) ?_
  refine lv_ishr hx hb d_Mo_shift_23 ?_
  refine lv_istore hx hb d_Mo_shift_24 hl (by decide) rfl (fun ls hl => ?_)
  refine lv_iload_n hx hb d_Mo_shift_26 rfl (lv_at hl 2 rfl) ?_
  refine lv_if_le (tgt := 64) hx hb d_Mo_shift_27 rfl (fun h27 => ?_) (fun h27 => ?_)
  · have hq := hq.trans (if_pos h27)
    exact B_Mo_shift_64 _ _ _ _ _ _ _ _ (lv_sub hl [3, 4, 2, 1, 0] rfl) S hq
  · have hq := hq.trans (if_neg h27)
    refine lv_aload_n hx hb d_Mo_shift_30 rfl (lv_at hl 3 rfl) ?_
    refine lv_iload hx hb d_Mo_shift_31 (lv_at hl 0 rfl) ?_
    refine lv_if_ne (tgt := 45) hx hb d_Mo_shift_33 rfl (fun h33 => ?_) (fun h33 => ?_)
    · have hq := hq.trans (if_neg h33)
      refine lv_iload_n hx hb d_Mo_shift_45 rfl (lv_at hl 1 rfl) ?_
      refine lv_iload_n hx hb d_Mo_shift_46 rfl (lv_at hl 2 rfl) ?_
      refine lv_iconst (v := 1) hx hb d_Mo_shift_47 (by decide) ?_
      refine lv_isub hx hb d_Mo_shift_48 ?_
      refine lv_ishr hx hb d_Mo_shift_49 ?_
      exact B_Mo_shift_50 _ _ _ _ _ _ _ _ _ (lv_sub hl [3, 4, 2, 1, 0] rfl) S hq
    · have hq := hq.trans (if_pos h33)
      refine lv_iload_n hx hb d_Mo_shift_36 rfl (lv_at hl 1 rfl) ?_
      refine lv_bipush (v := 32) hx hb d_Mo_shift_37 (by decide) ?_
      refine lv_iload_n hx hb d_Mo_shift_39 rfl (lv_at hl 2 rfl) ?_
      refine lv_isub hx hb d_Mo_shift_40 ?_
      refine r_iushr hx hb d_Mo_shift_41 ?_
      refine lv_goto (tgt := 50) hx hb d_Mo_shift_42 rfl ?_
      exact B_Mo_shift_50 _ _ _ _ _ _ _ _ _ (lv_sub hl [3, 4, 2, 1, 0] rfl) S hq
set_option maxHeartbeats 4000000 in
set_option maxRecDepth 100000 in
theorem c_Mo_immediate (v1 : Int32) (σ : nS) : CtI l D cI cZ (wM cI cZ a) exM y_Mo_immediate b_Mo_immediate 6 { frames := 2, cells := 0, slots := 0, locals := 49 } [.ref (a 0), .int v1] σ (s_Mo_immediate v1 σ) := by
  generalize hF : s_Mo_immediate v1 σ = F
  refine metI exM_ok (by decide) (Nat.le_of_ble_eq_true rfl) (fun p e s m args below meth c A Q ls X S hl ret => ?_)
  have hq := hF.symm
  obtain ⟨hx, hb, hml, hown, hts, hK, hA, hE, hlk, hEo⟩ := id X
  have hl : lv_has ls 6 [(0, .ref (a 0)), (1, .int v1)] := hl
  have B_Mo_immediate_92 : ∀ (σ : nS) (H : Heap) (locs : List Loc) (ls : Array Slot), lv_has ls 6 [] → St D (wM cI cZ a) A s σ H locs → F = s_Mo_immediate_92 σ → W p l e ({ frames := 2, cells := 0, slots := 0, locals := 49 } : Room) s m args below meth c H locs 0 0 Q (F0 m 92 ls []) := by
    intro σ H locs ls hl S hq
    refine lv_iconst (v := 0) hx hb d_Mo_immediate_92 (by decide) ?_
    exact ret _ _ _ _ _ _ S hq d_Mo_immediate_93
  have B_Mo_immediate_76 : ∀ (v2 : Int32) (v4 : Int32) (k0 : Int32) (σ : nS) (H : Heap) (locs : List Loc) (ls : Array Slot), (vp_in v2 16) → lv_has ls 6 [(0, .ref (a 0)), (2, .int v2), (4, .int v4)] → St D (wM cI cZ a) A s σ H locs → F = s_Mo_immediate_76 v2 v4 k0 σ → W p l e ({ frames := 2, cells := 0, slots := 0, locals := 49 } : Room) s m args below meth c H locs 0 0 Q (F0 m 76 ls [.int k0]) := by
    intro v2 v4 k0 σ H locs ls qv2_16 hl S hq
    refine lv_istore hx hb d_Mo_immediate_76 hl (by decide) rfl (fun ls hl => ?_)
    refine lv_iload hx hb d_Mo_immediate_78 (lv_at hl 3 rfl) ?_
    refine lv_iconst (v := 1) hx hb d_Mo_immediate_80 (by decide) ?_
    refine lv_icmp_eq (tgt := 92) hx hb d_Mo_immediate_81 rfl (fun h81 => ?_) (fun h81 => ?_)
    · have hq := hq.trans (if_pos h81)
      exact B_Mo_immediate_92 _ _ _ _ (lv_sub hl [] rfl) S hq
    · have hq := hq.trans (if_neg h81)
      refine lv_aload_n hx hb d_Mo_immediate_84 rfl (lv_at hl 1 rfl) ?_
      refine g_Mo_13 hx hb hts hown hK S.1 d_Mo_immediate_85 ?_
      refine lv_iload_n hx hb d_Mo_immediate_88 rfl (lv_at hl 2 rfl) ?_
      refine lv_iload hx hb d_Mo_immediate_89 (lv_at hl 0 rfl) ?_
      refine st_M_2 (k := (v2).toNatClampNeg) hx hb hK S qv2_16 rfl d_Mo_immediate_91 (fun H locs S => ?_)
      exact B_Mo_immediate_92 _ _ _ _ (lv_sub hl [] rfl) S hq
  have B_Mo_immediate_32 : ∀ (v2 : Int32) (v3 : Int32) (v4 : Int32) (σ : nS) (H : Heap) (locs : List Loc) (ls : Array Slot), (vp_in v2 16) → lv_has ls 6 [(0, .ref (a 0)), (2, .int v2), (3, .int v3), (4, .int v4)] → St D (wM cI cZ a) A s σ H locs → F = s_Mo_immediate_32 v2 v3 v4 σ → W p l e ({ frames := 2, cells := 0, slots := 0, locals := 49 } : Room) s m args below meth c H locs 0 0 Q (F0 m 32 ls []) := by
    intro v2 v3 v4 σ H locs ls qv2_16 hl S hq
    refine lv_iload hx hb d_Mo_immediate_32 (lv_at hl 3 rfl) ?_
    refine lv_if_ne (tgt := 41) hx hb d_Mo_immediate_34 rfl (fun h34 => ?_) (fun h34 => ?_)
    · have hq := hq.trans (if_neg h34)
      refine lv_iload hx hb d_Mo_immediate_41 (lv_at hl 3 rfl) ?_
      refine lv_iconst (v := 2) hx hb d_Mo_immediate_43 (by decide) ?_
      refine lv_icmp_ne (tgt := 62) hx hb d_Mo_immediate_44 rfl (fun h44 => ?_) (fun h44 => ?_)
      · have hq := hq.trans (if_neg h44)
        refine lv_aload_n hx hb d_Mo_immediate_62 rfl (lv_at hl 0 rfl) ?_
        refine lv_aload_n hx hb d_Mo_immediate_63 rfl (lv_at hl 0 rfl) ?_
        refine g_Mo_13 hx hb hts hown hK S.1 d_Mo_immediate_64 ?_
        refine lv_iload_n hx hb d_Mo_immediate_67 rfl (lv_at hl 1 rfl) ?_
        refine ld_M_2 (k := (v2).toNatClampNeg) hx hb hK S.1 qv2_16 rfl d_Mo_immediate_68 ?_
        refine lv_iload_n hx hb d_Mo_immediate_69 rfl (lv_at hl 2 rfl) ?_
        refine lv_iconst (v := -1) hx hb d_Mo_immediate_70 (by decide) ?_
        refine lv_ixor hx hb d_Mo_immediate_71 ?_
        refine lv_iconst (v := 1) hx hb d_Mo_immediate_72 (by decide) ?_
        refine callVI X S hl (c_Mo_sum (σ 0 (v2).toNatClampNeg) (v3 ^^^ (-1 : Int32)) (1 : Int32) _) v_Mo_128 0 6 ⟨rfl, rfl⟩ (rk_dec (by decide)) rfl rfl (Nat.le_of_ble_eq_true rfl) d_Mo_immediate_73 (fun r1 σ1 H locs e1 S => ?_)
        have hq := hq.trans (ap2_eq e1)
        exact B_Mo_immediate_76 _ _ _ _ _ _ _ qv2_16 (lv_sub hl [0, 1, 3] rfl) S hq
      · have hq := hq.trans (if_pos h44)
        refine lv_aload_n hx hb d_Mo_immediate_47 rfl (lv_at hl 0 rfl) ?_
        refine lv_aload_n hx hb d_Mo_immediate_48 rfl (lv_at hl 0 rfl) ?_
        refine g_Mo_13 hx hb hts hown hK S.1 d_Mo_immediate_49 ?_
        refine lv_iload_n hx hb d_Mo_immediate_52 rfl (lv_at hl 1 rfl) ?_
        refine ld_M_2 (k := (v2).toNatClampNeg) hx hb hK S.1 qv2_16 rfl d_Mo_immediate_53 ?_
        refine lv_iload_n hx hb d_Mo_immediate_54 rfl (lv_at hl 2 rfl) ?_
        refine lv_iconst (v := 0) hx hb d_Mo_immediate_55 (by decide) ?_
        refine callVI X S hl (c_Mo_sum (σ 0 (v2).toNatClampNeg) v3 (0 : Int32) _) v_Mo_128 0 6 ⟨rfl, rfl⟩ (rk_dec (by decide)) rfl rfl (Nat.le_of_ble_eq_true rfl) d_Mo_immediate_56 (fun r1 σ1 H locs e1 S => ?_)
        have hq := hq.trans (ap2_eq e1)
        refine lv_goto (tgt := 76) hx hb d_Mo_immediate_59 rfl ?_
        exact B_Mo_immediate_76 _ _ _ _ _ _ _ qv2_16 (lv_sub hl [0, 1, 3] rfl) S hq
    · have hq := hq.trans (if_pos h34)
      refine lv_iload_n hx hb d_Mo_immediate_37 rfl (lv_at hl 2 rfl) ?_
      refine lv_goto (tgt := 76) hx hb d_Mo_immediate_38 rfl ?_
      exact B_Mo_immediate_76 _ _ _ _ _ _ _ qv2_16 (lv_sub hl [0, 1, 3] rfl) S hq
  refine lv_iload_n hx hb d_Mo_immediate_0 rfl (lv_at hl 1 rfl) ?_
  refine lv_bipush (v := 8) hx hb d_Mo_immediate_1 (by decide) ?_
  refine lv_ishr hx hb d_Mo_immediate_3 ?_
  refine lv_bipush (v := 7) hx hb d_Mo_immediate_4 (by decide) ?_
  refine lv_iand hx hb d_Mo_immediate_6 ?_
  refine lv_istore_n hx hb d_Mo_immediate_7 rfl hl (by decide) rfl (fun ls hl => ?_)
  refine lv_iload_n hx hb d_Mo_immediate_8 rfl (lv_at hl 2 rfl) ?_
  refine lv_sipush (v := 255) hx hb d_Mo_immediate_9 (by decide) ?_
  refine lv_iand hx hb d_Mo_immediate_12 ?_
  refine lv_istore_n hx hb d_Mo_immediate_13 rfl hl (by decide) rfl (fun ls hl => ?_)
  refine lv_iload_n hx hb d_Mo_immediate_14 rfl (lv_at hl 3 rfl) ?_
  refine lv_bipush (v := 11) hx hb d_Mo_immediate_15 (by decide) ?_
  refine lv_ishr hx hb d_Mo_immediate_17 ?_
  refine lv_iconst (v := 3) hx hb d_Mo_immediate_18 (by decide) ?_
  refine lv_iand hx hb d_Mo_immediate_19 ?_
  refine lv_istore hx hb d_Mo_immediate_20 hl (by decide) rfl (fun ls hl => ?_)
  refine lv_iload hx hb d_Mo_immediate_22 (lv_at hl 0 rfl) ?_
  refine lv_if_ne (tgt := 32) hx hb d_Mo_immediate_24 rfl (fun h24 => ?_) (fun h24 => ?_)
  · have hq := hq.trans (if_neg h24)
    exact B_Mo_immediate_32 _ _ _ _ _ _ _ (vin_and7_16 _) (lv_sub hl [3, 2, 1, 0] rfl) S hq
  · have hq := hq.trans (if_pos h24)
    refine lv_aload_n hx hb d_Mo_immediate_27 rfl (lv_at hl 3 rfl) ?_
    refine lv_iload_n hx hb d_Mo_immediate_28 rfl (lv_at hl 1 rfl) ?_
    refine callVV X S hl (c_Mo_test (v1 &&& (255 : Int32)) _) v_Mo_125 0 6 ⟨rfl, rfl⟩ (rk_dec (by decide)) rfl rfl (Nat.le_of_ble_eq_true rfl) d_Mo_immediate_29 (fun σ1 H locs e1 S => ?_)
    have hq := hq.trans (ap1_eq e1)
    exact B_Mo_immediate_32 _ _ _ _ _ _ _ (vin_and7_16 _) (lv_sub hl [3, 2, 1, 0] rfl) S hq
set_option maxHeartbeats 4000000 in
set_option maxRecDepth 100000 in
theorem c_Mo_logic (v1 : Int32) (σ : nS) : CtI l D cI cZ (wM cI cZ a) exM y_Mo_logic b_Mo_logic 7 { frames := 2, cells := 0, slots := 0, locals := 49 } [.ref (a 0), .int v1] σ (s_Mo_logic v1 σ) := by
  generalize hF : s_Mo_logic v1 σ = F
  refine metI exM_ok (by decide) (Nat.le_of_ble_eq_true rfl) (fun p e s m args below meth c A Q ls X S hl ret => ?_)
  have hq := hF.symm
  obtain ⟨hx, hb, hml, hown, hts, hK, hA, hE, hlk, hEo⟩ := id X
  have hl : lv_has ls 7 [(0, .ref (a 0)), (1, .int v1)] := hl
  have B_Mo_logic_269 : ∀ (σ : nS) (H : Heap) (locs : List Loc) (ls : Array Slot), lv_has ls 7 [] → St D (wM cI cZ a) A s σ H locs → F = s_Mo_logic_269 σ → W p l e ({ frames := 2, cells := 0, slots := 0, locals := 49 } : Room) s m args below meth c H locs 0 0 Q (F0 m 269 ls []) := by
    intro σ H locs ls hl S hq
    refine lv_iconst (v := 0) hx hb d_Mo_logic_269 (by decide) ?_
    exact ret _ _ _ _ _ _ S hq d_Mo_logic_270
  have B_Mo_logic_252 : ∀ (v3 : Int32) (k1 : Int32) (k2 : Int32) (σ : nS) (H : Heap) (locs : List Loc) (ls : Array Slot), (vp_in k1 16) → (vp_in v3 16) → lv_has ls 7 [(0, .ref (a 0)), (3, .int v3)] → St D (wM cI cZ a) A s σ H locs → F = s_Mo_logic_252 v3 k1 k2 σ → W p l e ({ frames := 2, cells := 0, slots := 0, locals := 49 } : Room) s m args below meth c H locs 0 0 Q (F0 m 252 ls [.int k2, .int k1, .ref (a 2)]) := by
    intro v3 k1 k2 σ H locs ls qk1_16 qv3_16 hl S hq
    refine st_M_2 (k := (k1).toNatClampNeg) hx hb hK S qk1_16 rfl d_Mo_logic_252 (fun H locs S => ?_)
    refine lv_aload_n hx hb d_Mo_logic_253 rfl (lv_at hl 0 rfl) ?_
    refine lv_aload_n hx hb d_Mo_logic_254 rfl (lv_at hl 0 rfl) ?_
    refine g_Mo_13 hx hb hts hown hK S.1 d_Mo_logic_255 ?_
    refine lv_iload_n hx hb d_Mo_logic_258 rfl (lv_at hl 1 rfl) ?_
    refine ld_M_2 (k := (v3).toNatClampNeg) hx hb hK S.1 qv3_16 rfl d_Mo_logic_259 ?_
    refine callVV X S hl (c_Mo_test ((up2 σ 0 (k1).toNatClampNeg k2) 0 (v3).toNatClampNeg) _) v_Mo_125 0 6 ⟨rfl, rfl⟩ (rk_dec (by decide)) rfl rfl (Nat.le_of_ble_eq_true rfl) d_Mo_logic_260 (fun σ1 H locs e1 S => ?_)
    have hq := hq.trans (ap1_eq e1)
    refine lv_goto (tgt := 269) hx hb d_Mo_logic_263 rfl ?_
    exact B_Mo_logic_269 _ _ _ _ (lv_sub hl [] rfl) S hq
  have B_Mo_logic_174 : ∀ (v2 : Int32) (v3 : Int32) (v4 : Int32) (v5 : Int32) (σ : nS) (H : Heap) (locs : List Loc) (ls : Array Slot), (vp_in v3 16) → lv_has ls 7 [(0, .ref (a 0)), (2, .int v2), (3, .int v3), (4, .int v4), (5, .int v5)] → St D (wM cI cZ a) A s σ H locs → F = s_Mo_logic_174 v2 v3 v4 v5 σ → W p l e ({ frames := 2, cells := 0, slots := 0, locals := 49 } : Room) s m args below meth c H locs 0 0 Q (F0 m 174 ls []) := by
    intro v2 v3 v4 v5 σ H locs ls qv3_16 hl S hq
    refine lv_aload_n hx hb d_Mo_logic_174 rfl (lv_at hl 0 rfl) ?_
    refine g_Mo_13 hx hb hts hown hK S.1 d_Mo_logic_175 ?_
    refine lv_iload_n hx hb d_Mo_logic_178 rfl (lv_at hl 2 rfl) ?_
    refine lv_iload_n hx hb d_Mo_logic_179 rfl (lv_at hl 1 rfl) ?_
    refine lv_if_ne (tgt := 191) hx hb d_Mo_logic_180 rfl (fun h180 => ?_) (fun h180 => ?_)
    · have hq := hq.trans (if_neg h180)
      refine lv_iload_n hx hb d_Mo_logic_191 rfl (lv_at hl 1 rfl) ?_
      refine lv_iconst (v := 1) hx hb d_Mo_logic_192 (by decide) ?_
      refine lv_icmp_ne (tgt := 204) hx hb d_Mo_logic_193 rfl (fun h193 => ?_) (fun h193 => ?_)
      · have hq := hq.trans (if_neg h193)
        refine lv_iload_n hx hb d_Mo_logic_204 rfl (lv_at hl 1 rfl) ?_
        refine lv_bipush (v := 12) hx hb d_Mo_logic_205 (by decide) ?_
        refine lv_icmp_ne (tgt := 218) hx hb d_Mo_logic_207 rfl (fun h207 => ?_) (fun h207 => ?_)
        · have hq := hq.trans (if_neg h207)
          refine lv_iload_n hx hb d_Mo_logic_218 rfl (lv_at hl 1 rfl) ?_
          refine lv_bipush (v := 13) hx hb d_Mo_logic_219 (by decide) ?_
          refine lv_icmp_ne (tgt := 232) hx hb d_Mo_logic_221 rfl (fun h221 => ?_) (fun h221 => ?_)
          · have hq := hq.trans (if_neg h221)
            refine lv_iload_n hx hb d_Mo_logic_232 rfl (lv_at hl 1 rfl) ?_
            refine lv_bipush (v := 14) hx hb d_Mo_logic_233 (by decide) ?_
            refine lv_icmp_ne (tgt := 248) hx hb d_Mo_logic_235 rfl (fun h235 => ?_) (fun h235 => ?_)
            · have hq := hq.trans (if_neg h235)
              refine lv_iload hx hb d_Mo_logic_248 (lv_at hl 4 rfl) ?_
              refine lv_iconst (v := -1) hx hb d_Mo_logic_250 (by decide) ?_
              refine lv_ixor hx hb d_Mo_logic_251 ?_
              exact B_Mo_logic_252 _ _ _ _ _ _ _ qv3_16 qv3_16 (lv_sub hl [0, 2] rfl) S hq
            · have hq := hq.trans (if_pos h235)
              refine lv_iload hx hb d_Mo_logic_238 (lv_at hl 3 rfl) ?_
              refine lv_iload hx hb d_Mo_logic_240 (lv_at hl 4 rfl) ?_
              refine lv_iconst (v := -1) hx hb d_Mo_logic_242 (by decide) ?_
              refine lv_ixor hx hb d_Mo_logic_243 ?_
              refine lv_iand hx hb d_Mo_logic_244 ?_
              refine lv_goto (tgt := 252) hx hb d_Mo_logic_245 rfl ?_
              exact B_Mo_logic_252 _ _ _ _ _ _ _ qv3_16 qv3_16 (lv_sub hl [0, 2] rfl) S hq
          · have hq := hq.trans (if_pos h221)
            refine lv_iload hx hb d_Mo_logic_224 (lv_at hl 3 rfl) ?_
            refine lv_iload hx hb d_Mo_logic_226 (lv_at hl 4 rfl) ?_
            refine lv_imul hx hb d_Mo_logic_228 ?_
            refine lv_goto (tgt := 252) hx hb d_Mo_logic_229 rfl ?_
            exact B_Mo_logic_252 _ _ _ _ _ _ _ qv3_16 qv3_16 (lv_sub hl [0, 2] rfl) S hq
        · have hq := hq.trans (if_pos h207)
          refine lv_iload hx hb d_Mo_logic_210 (lv_at hl 3 rfl) ?_
          refine lv_iload hx hb d_Mo_logic_212 (lv_at hl 4 rfl) ?_
          refine lv_ior hx hb d_Mo_logic_214 ?_
          refine lv_goto (tgt := 252) hx hb d_Mo_logic_215 rfl ?_
          exact B_Mo_logic_252 _ _ _ _ _ _ _ qv3_16 qv3_16 (lv_sub hl [0, 2] rfl) S hq
      · have hq := hq.trans (if_pos h193)
        refine lv_iload hx hb d_Mo_logic_196 (lv_at hl 3 rfl) ?_
        refine lv_iload hx hb d_Mo_logic_198 (lv_at hl 4 rfl) ?_
        refine lv_ixor hx hb d_Mo_logic_200 ?_
        refine lv_goto (tgt := 252) hx hb d_Mo_logic_201 rfl ?_
        exact B_Mo_logic_252 _ _ _ _ _ _ _ qv3_16 qv3_16 (lv_sub hl [0, 2] rfl) S hq
    · have hq := hq.trans (if_pos h180)
      refine lv_iload hx hb d_Mo_logic_183 (lv_at hl 3 rfl) ?_
      refine lv_iload hx hb d_Mo_logic_185 (lv_at hl 4 rfl) ?_
      refine lv_iand hx hb d_Mo_logic_187 ?_
      refine lv_goto (tgt := 252) hx hb d_Mo_logic_188 rfl ?_
      exact B_Mo_logic_252 _ _ _ _ _ _ _ qv3_16 qv3_16 (lv_sub hl [0, 2] rfl) S hq
  have B_Mo_logic_46 : ∀ (v2 : Int32) (v3 : Int32) (v4 : Int32) (v5 : Int32) (k0 : Bool) (σ : nS) (H : Heap) (locs : List Loc) (ls : Array Slot), (vp_in v3 16) → lv_has ls 7 [(0, .ref (a 0)), (2, .int v2), (3, .int v3), (4, .int v4), (5, .int v5)] → St D (wM cI cZ a) A s σ H locs → F = s_Mo_logic_46 v2 v3 v4 v5 k0 σ → W p l e ({ frames := 2, cells := 0, slots := 0, locals := 49 } : Room) s m args below meth c H locs 0 0 Q (F0 m 46 ls [.int (bI k0)]) := by
    intro v2 v3 v4 v5 k0 σ H locs ls qv3_16 hl S hq
    refine lv_istore hx hb d_Mo_logic_46 hl (by decide) rfl (fun ls hl => ?_)
    refine lv_iload_n hx hb d_Mo_logic_48 rfl (lv_at hl 2 rfl) ?_
    refine lv_iconst (v := 5) hx hb d_Mo_logic_49 (by decide) ?_
    refine lv_icmp_ne (tgt := 72) hx hb d_Mo_logic_50 rfl (fun h50 => ?_) (fun h50 => ?_)
    · have hq := hq.trans (if_neg h50)
      refine lv_iload_n hx hb d_Mo_logic_72 rfl (lv_at hl 2 rfl) ?_
      refine lv_bipush (v := 6) hx hb d_Mo_logic_73 (by decide) ?_
      refine lv_icmp_ne (tgt := 99) hx hb d_Mo_logic_75 rfl (fun h75 => ?_) (fun h75 => ?_)
      · have hq := hq.trans (if_neg h75)
        refine lv_iload_n hx hb d_Mo_logic_99 rfl (lv_at hl 2 rfl) ?_
        refine lv_bipush (v := 9) hx hb d_Mo_logic_100 (by decide) ?_
        refine lv_icmp_ne (tgt := 124) hx hb d_Mo_logic_102 rfl (fun h102 => ?_) (fun h102 => ?_)
        · have hq := hq.trans (if_neg h102)
          refine lv_iload_n hx hb d_Mo_logic_124 rfl (lv_at hl 2 rfl) ?_
          refine lv_bipush (v := 10) hx hb d_Mo_logic_125 (by decide) ?_
          refine lv_icmp_ne (tgt := 145) hx hb d_Mo_logic_127 rfl (fun h127 => ?_) (fun h127 => ?_)
          · have hq := hq.trans (if_neg h127)
            refine lv_iload_n hx hb d_Mo_logic_145 rfl (lv_at hl 2 rfl) ?_
            refine lv_bipush (v := 8) hx hb d_Mo_logic_146 (by decide) ?_
            refine lv_icmp_ne (tgt := 163) hx hb d_Mo_logic_148 rfl (fun h148 => ?_) (fun h148 => ?_)
            · have hq := hq.trans (if_neg h148)
              refine lv_iload_n hx hb d_Mo_logic_163 rfl (lv_at hl 2 rfl) ?_
              refine lv_iconst (v := 2) hx hb d_Mo_logic_164 (by decide) ?_
              refine lv_icmp_lt (tgt := 174) hx hb d_Mo_logic_165 rfl (fun h165 => ?_) (fun h165 => ?_)
              · have hq := hq.trans (if_pos h165)
                exact B_Mo_logic_174 _ _ _ _ _ _ _ _ qv3_16 (lv_sub hl [1, 2, 3, 4, 5] rfl) S hq
              · have hq := hq.trans (if_neg h165)
                refine lv_iload_n hx hb d_Mo_logic_168 rfl (lv_at hl 2 rfl) ?_
                refine lv_bipush (v := 11) hx hb d_Mo_logic_169 (by decide) ?_
                refine lv_icmp_le (tgt := 266) hx hb d_Mo_logic_171 rfl (fun h171 => ?_) (fun h171 => ?_)
                · have hq := hq.trans (if_pos h171)
                  refine lv_bipush (v := 6) hx hb d_Mo_logic_266 (by decide) ?_
                  exact ret _ _ _ _ _ _ S hq d_Mo_logic_268
                · have hq := hq.trans (if_neg h171)
                  exact B_Mo_logic_174 _ _ _ _ _ _ _ _ qv3_16 (lv_sub hl [1, 2, 3, 4, 5] rfl) S hq
            · have hq := hq.trans (if_pos h148)
              refine lv_aload_n hx hb d_Mo_logic_151 rfl (lv_at hl 1 rfl) ?_
              refine lv_iload hx hb d_Mo_logic_152 (lv_at hl 4 rfl) ?_
              refine lv_iload hx hb d_Mo_logic_154 (lv_at hl 5 rfl) ?_
              refine lv_iand hx hb d_Mo_logic_156 ?_
              refine callVV X S hl (c_Mo_test (v4 &&& v5) _) v_Mo_125 0 6 ⟨rfl, rfl⟩ (rk_dec (by decide)) rfl rfl (Nat.le_of_ble_eq_true rfl) d_Mo_logic_157 (fun σ1 H locs e1 S => ?_)
              have hq := hq.trans (ap1_eq e1)
              refine lv_goto (tgt := 269) hx hb d_Mo_logic_160 rfl ?_
              exact B_Mo_logic_269 _ _ _ _ (lv_sub hl [] rfl) S hq
          · have hq := hq.trans (if_pos h127)
            refine lv_aload_n hx hb d_Mo_logic_130 rfl (lv_at hl 1 rfl) ?_
            refine lv_iload hx hb d_Mo_logic_131 (lv_at hl 4 rfl) ?_
            refine lv_iload hx hb d_Mo_logic_133 (lv_at hl 5 rfl) ?_
            refine lv_iconst (v := -1) hx hb d_Mo_logic_135 (by decide) ?_
            refine lv_ixor hx hb d_Mo_logic_136 ?_
            refine lv_iconst (v := 1) hx hb d_Mo_logic_137 (by decide) ?_
            refine callVI X S hl (c_Mo_sum v4 (v5 ^^^ (-1 : Int32)) (1 : Int32) _) v_Mo_128 0 6 ⟨rfl, rfl⟩ (rk_dec (by decide)) rfl rfl (Nat.le_of_ble_eq_true rfl) d_Mo_logic_138 (fun r1 σ1 H locs e1 S => ?_)
            have hq := hq.trans (ap2_eq e1)
            refine lv_pop hx hb d_Mo_logic_141 rfl ?_
            refine lv_goto (tgt := 269) hx hb d_Mo_logic_142 rfl ?_
            exact B_Mo_logic_269 _ _ _ _ (lv_sub hl [] rfl) S hq
        · have hq := hq.trans (if_pos h102)
          refine lv_aload_n hx hb d_Mo_logic_105 rfl (lv_at hl 1 rfl) ?_
          refine g_Mo_13 hx hb hts hown hK S.1 d_Mo_logic_106 ?_
          refine lv_iload_n hx hb d_Mo_logic_109 rfl (lv_at hl 3 rfl) ?_
          refine lv_aload_n hx hb d_Mo_logic_110 rfl (lv_at hl 1 rfl) ?_
          refine lv_iconst (v := 0) hx hb d_Mo_logic_111 (by decide) ?_
          refine lv_iload hx hb d_Mo_logic_112 (lv_at hl 5 rfl) ?_
          refine lv_iconst (v := -1) hx hb d_Mo_logic_114 (by decide) ?_
          refine lv_ixor hx hb d_Mo_logic_115 ?_
          refine lv_iconst (v := 1) hx hb d_Mo_logic_116 (by decide) ?_
          refine callVI X S hl (c_Mo_sum (0 : Int32) (v5 ^^^ (-1 : Int32)) (1 : Int32) _) v_Mo_128 0 6 ⟨rfl, rfl⟩ (rk_dec (by decide)) rfl rfl (Nat.le_of_ble_eq_true rfl) d_Mo_logic_117 (fun r1 σ1 H locs e1 S => ?_)
          have hq := hq.trans (ap2_eq e1)
          refine st_M_2 (k := (v3).toNatClampNeg) hx hb hK S qv3_16 rfl d_Mo_logic_120 (fun H locs S => ?_)
          refine lv_goto (tgt := 269) hx hb d_Mo_logic_121 rfl ?_
          exact B_Mo_logic_269 _ _ _ _ (lv_sub hl [] rfl) S hq
      · have hq := hq.trans (if_pos h75)
        refine lv_aload_n hx hb d_Mo_logic_78 rfl (lv_at hl 1 rfl) ?_
        refine g_Mo_13 hx hb hts hown hK S.1 d_Mo_logic_79 ?_
        refine lv_iload_n hx hb d_Mo_logic_82 rfl (lv_at hl 3 rfl) ?_
        refine lv_aload_n hx hb d_Mo_logic_83 rfl (lv_at hl 1 rfl) ?_
        refine lv_iload hx hb d_Mo_logic_84 (lv_at hl 4 rfl) ?_
        refine lv_iload hx hb d_Mo_logic_86 (lv_at hl 5 rfl) ?_
        refine lv_iconst (v := -1) hx hb d_Mo_logic_88 (by decide) ?_
        refine lv_ixor hx hb d_Mo_logic_89 ?_
        refine lv_iload hx hb d_Mo_logic_90 (lv_at hl 0 rfl) ?_
        refine callVI X S hl (c_Mo_sum v4 (v5 ^^^ (-1 : Int32)) (bI k0) _) v_Mo_128 0 6 ⟨rfl, rfl⟩ (rk_dec (by decide)) rfl rfl (Nat.le_of_ble_eq_true rfl) d_Mo_logic_92 (fun r1 σ1 H locs e1 S => ?_)
        have hq := hq.trans (ap2_eq e1)
        refine st_M_2 (k := (v3).toNatClampNeg) hx hb hK S qv3_16 rfl d_Mo_logic_95 (fun H locs S => ?_)
        refine lv_goto (tgt := 269) hx hb d_Mo_logic_96 rfl ?_
        exact B_Mo_logic_269 _ _ _ _ (lv_sub hl [] rfl) S hq
    · have hq := hq.trans (if_pos h50)
      refine lv_aload_n hx hb d_Mo_logic_53 rfl (lv_at hl 1 rfl) ?_
      refine g_Mo_13 hx hb hts hown hK S.1 d_Mo_logic_54 ?_
      refine lv_iload_n hx hb d_Mo_logic_57 rfl (lv_at hl 3 rfl) ?_
      refine lv_aload_n hx hb d_Mo_logic_58 rfl (lv_at hl 1 rfl) ?_
      refine lv_iload hx hb d_Mo_logic_59 (lv_at hl 4 rfl) ?_
      refine lv_iload hx hb d_Mo_logic_61 (lv_at hl 5 rfl) ?_
      refine lv_iload hx hb d_Mo_logic_63 (lv_at hl 0 rfl) ?_
      refine callVI X S hl (c_Mo_sum v4 v5 (bI k0) _) v_Mo_128 0 6 ⟨rfl, rfl⟩ (rk_dec (by decide)) rfl rfl (Nat.le_of_ble_eq_true rfl) d_Mo_logic_65 (fun r1 σ1 H locs e1 S => ?_)
      have hq := hq.trans (ap2_eq e1)
      refine st_M_2 (k := (v3).toNatClampNeg) hx hb hK S qv3_16 rfl d_Mo_logic_68 (fun H locs S => ?_)
      refine lv_goto (tgt := 269) hx hb d_Mo_logic_69 rfl ?_
      exact B_Mo_logic_269 _ _ _ _ (lv_sub hl [] rfl) S hq
  refine lv_iload_n hx hb d_Mo_logic_0 rfl (lv_at hl 1 rfl) ?_
  refine lv_bipush (v := 6) hx hb d_Mo_logic_1 (by decide) ?_
  refine lv_ishr hx hb d_Mo_logic_3 ?_
  refine lv_bipush (v := 15) hx hb d_Mo_logic_4 (by decide) ?_
  refine lv_iand hx hb d_Mo_logic_6 ?_
  refine lv_istore_n hx hb d_Mo_logic_7 rfl hl (by decide) rfl (fun ls hl => ?_)
  refine lv_iload_n hx hb d_Mo_logic_8 rfl (lv_at hl 2 rfl) ?_
  refine lv_bipush (v := 7) hx hb d_Mo_logic_9 (by decide) ?_
  refine lv_iand hx hb d_Mo_logic_11 ?_
  refine lv_istore_n hx hb d_Mo_logic_12 rfl hl (by decide) rfl (fun ls hl => ?_)
  refine lv_aload_n hx hb d_Mo_logic_13 rfl (lv_at hl 2 rfl) ?_
  refine g_Mo_13 hx hb hts hown hK S.1 d_Mo_logic_14 ?_
  refine lv_iload_n hx hb d_Mo_logic_17 rfl (lv_at hl 0 rfl) ?_
  refine ld_M_2 (k := ((v1 &&& (7 : Int32))).toNatClampNeg) hx hb hK S.1 (vin_and7_16 _) rfl d_Mo_logic_18 ?_
  refine lv_istore hx hb d_Mo_logic_19 hl (by decide) rfl (fun ls hl => ?_)
  refine lv_aload_n hx hb d_Mo_logic_21 rfl (lv_at hl 3 rfl) ?_
  refine g_Mo_13 hx hb hts hown hK S.1 d_Mo_logic_22 ?_
  refine lv_iload_n hx hb d_Mo_logic_25 rfl (lv_at hl 4 rfl) ?_
  refine lv_iconst (v := 3) hx hb d_Mo_logic_26 (by decide) ?_
  refine lv_ishr hx hb d_Mo_logic_27 ?_
  refine lv_bipush (v := 7) hx hb d_Mo_logic_28 (by decide) ?_
  refine lv_iand hx hb d_Mo_logic_30 ?_
  refine ld_M_2 (k := (((v1 >>> ((3 : Int32) &&& 31)) &&& (7 : Int32))).toNatClampNeg) hx hb hK S.1 (vin_and7_16 _) rfl d_Mo_logic_31 ?_
  refine lv_istore hx hb d_Mo_logic_32 hl (by decide) rfl (fun ls hl => ?_)
  refine lv_aload_n hx hb d_Mo_logic_34 rfl (lv_at hl 4 rfl) ?_
  refine g_Mo_88 hx hb hts hown hK S.1 d_Mo_logic_35 ?_
  refine lv_if_eq (tgt := 45) hx hb d_Mo_logic_38 rfl (fun h38 => ?_) (fun h38 => ?_)
  · have hq := hq.trans (if_pos h38)
    refine lv_iconst (v := 0) hx hb d_Mo_logic_45 (by decide) ?_
    exact B_Mo_logic_46 _ _ _ _ false _ _ _ _ (vin_and7_16 _) (lv_sub hl [4, 3, 2, 1, 0] rfl) S hq
  · have hq := hq.trans (if_neg h38)
    refine lv_iconst (v := 1) hx hb d_Mo_logic_41 (by decide) ?_
    refine lv_goto (tgt := 46) hx hb d_Mo_logic_42 rfl ?_
    exact B_Mo_logic_46 _ _ _ _ true _ _ _ _ (vin_and7_16 _) (lv_sub hl [4, 3, 2, 1, 0] rfl) S hq
set_option maxHeartbeats 4000000 in
set_option maxRecDepth 100000 in
theorem c_Mo_moveHigh (v1 : Int32) (σ : nS) : CtI l D cI cZ (wM cI cZ a) exM y_Mo_moveHigh b_Mo_moveHigh 4 { frames := 0, cells := 0, slots := 0, locals := 0 } [.ref (a 0), .int v1] σ (s_Mo_moveHigh v1 σ) := by
  generalize hF : s_Mo_moveHigh v1 σ = F
  refine metI exM_ok (by decide) (Nat.le_of_ble_eq_true rfl) (fun p e s m args below meth c A Q ls X S hl ret => ?_)
  have hq := hF.symm
  obtain ⟨hx, hb, hml, hown, hts, hK, hA, hE, hlk, hEo⟩ := id X
  have hl : lv_has ls 4 [(0, .ref (a 0)), (1, .int v1)] := hl
  have B_Mo_moveHigh_57 : ∀ (k1 : Int32) (k2 : Int32) (σ : nS) (H : Heap) (locs : List Loc) (ls : Array Slot), (vp_in k1 16) → lv_has ls 4 [] → St D (wM cI cZ a) A s σ H locs → F = s_Mo_moveHigh_57 k1 k2 σ → W p l e ({ frames := 0, cells := 0, slots := 0, locals := 0 } : Room) s m args below meth c H locs 0 0 Q (F0 m 57 ls [.int k2, .int k1, .ref (a 2)]) := by
    intro k1 k2 σ H locs ls qk1_16 hl S hq
    refine st_M_2 (k := (k1).toNatClampNeg) hx hb hK S qk1_16 rfl d_Mo_moveHigh_57 (fun H locs S => ?_)
    refine lv_iconst (v := 0) hx hb d_Mo_moveHigh_58 (by decide) ?_
    exact ret _ _ _ _ _ _ S hq d_Mo_moveHigh_59
  refine lv_iload_n hx hb d_Mo_moveHigh_0 rfl (lv_at hl 1 rfl) ?_
  refine lv_iconst (v := 4) hx hb d_Mo_moveHigh_1 (by decide) ?_
  refine lv_ishr hx hb d_Mo_moveHigh_2 ?_
  refine lv_bipush (v := 8) hx hb d_Mo_moveHigh_3 (by decide) ?_
  refine lv_iand hx hb d_Mo_moveHigh_5 ?_
  refine lv_iload_n hx hb d_Mo_moveHigh_6 rfl (lv_at hl 1 rfl) ?_
  refine lv_bipush (v := 7) hx hb d_Mo_moveHigh_7 (by decide) ?_
  refine lv_iand hx hb d_Mo_moveHigh_9 ?_
  refine lv_ior hx hb d_Mo_moveHigh_10 ?_
  refine lv_istore_n hx hb d_Mo_moveHigh_11 rfl hl (by decide) rfl (fun ls hl => ?_)
  refine lv_iload_n hx hb d_Mo_moveHigh_12 rfl (lv_at hl 2 rfl) ?_
  refine lv_iconst (v := 3) hx hb d_Mo_moveHigh_13 (by decide) ?_
  refine lv_ishr hx hb d_Mo_moveHigh_14 ?_
  refine lv_bipush (v := 15) hx hb d_Mo_moveHigh_15 (by decide) ?_
  refine lv_iand hx hb d_Mo_moveHigh_17 ?_
  refine lv_istore_n hx hb d_Mo_moveHigh_18 rfl hl (by decide) rfl (fun ls hl => ?_)
  refine lv_iload_n hx hb d_Mo_moveHigh_19 rfl (lv_at hl 1 rfl) ?_
  refine lv_bipush (v := 15) hx hb d_Mo_moveHigh_20 (by decide) ?_
  refine lv_icmp_ne (tgt := 28) hx hb d_Mo_moveHigh_22 rfl (fun h22 => ?_) (fun h22 => ?_)
  · have hq := hq.trans (if_neg h22)
    refine lv_aload_n hx hb d_Mo_moveHigh_28 rfl (lv_at hl 2 rfl) ?_
    refine g_Mo_13 hx hb hts hown hK S.1 d_Mo_moveHigh_29 ?_
    refine lv_iload_n hx hb d_Mo_moveHigh_32 rfl (lv_at hl 1 rfl) ?_
    refine lv_iload_n hx hb d_Mo_moveHigh_33 rfl (lv_at hl 0 rfl) ?_
    refine lv_bipush (v := 15) hx hb d_Mo_moveHigh_34 (by decide) ?_
    refine lv_icmp_ne (tgt := 51) hx hb d_Mo_moveHigh_36 rfl (fun h36 => ?_) (fun h36 => ?_)
    · have hq := hq.trans (if_neg h36)
      refine lv_aload_n hx hb d_Mo_moveHigh_51 rfl (lv_at hl 2 rfl) ?_
      refine g_Mo_13 hx hb hts hown hK S.1 d_Mo_moveHigh_52 ?_
      refine lv_iload_n hx hb d_Mo_moveHigh_55 rfl (lv_at hl 0 rfl) ?_
      refine ld_M_2 (k := (((v1 >>> ((3 : Int32) &&& 31)) &&& (15 : Int32))).toNatClampNeg) hx hb hK S.1 (vin_and15_16 _) rfl d_Mo_moveHigh_56 ?_
      exact B_Mo_moveHigh_57 _ _ _ _ _ _ (vin_mh _) (lv_sub hl [] rfl) S hq
    · have hq := hq.trans (if_pos h36)
      refine lv_aload_n hx hb d_Mo_moveHigh_39 rfl (lv_at hl 2 rfl) ?_
      refine g_Mo_13 hx hb hts hown hK S.1 d_Mo_moveHigh_40 ?_
      refine lv_bipush (v := 15) hx hb d_Mo_moveHigh_43 (by decide) ?_
      refine ld_M_2 (k := 15) hx hb hK S.1 (vin_dec (by decide)) (by decide) d_Mo_moveHigh_45 ?_
      refine lv_iconst (v := 4) hx hb d_Mo_moveHigh_46 (by decide) ?_
      refine lv_iadd hx hb d_Mo_moveHigh_47 ?_
      refine lv_goto (tgt := 57) hx hb d_Mo_moveHigh_48 rfl ?_
      exact B_Mo_moveHigh_57 _ _ _ _ _ _ (vin_mh _) (lv_sub hl [] rfl) S hq
  · have hq := hq.trans (if_pos h22)
    refine lv_bipush (v := 6) hx hb d_Mo_moveHigh_25 (by decide) ?_
    exact ret _ _ _ _ _ _ S hq d_Mo_moveHigh_27
set_option maxHeartbeats 4000000 in
set_option maxRecDepth 100000 in
theorem c_Mo_jump (v1 : Int32) (v2 : Int32) (σ : nS) (hok : o_Mo_jump v1 v2 σ) : CtI l D cI cZ (wM cI cZ a) exM y_Mo_jump b_Mo_jump 4 { frames := 3, cells := 0, slots := 0, locals := 65 } [.ref (a 0), .int v1, .int v2] σ (s_Mo_jump v1 v2 σ) := by
  generalize hF : s_Mo_jump v1 v2 σ = F
  refine metI exM_ok (by decide) (Nat.le_of_ble_eq_true rfl) (fun p e s m args below meth c A Q ls X S hl ret => ?_)
  have hq := hF.symm
  obtain ⟨hx, hb, hml, hown, hts, hK, hA, hE, hlk, hEo⟩ := id X
  have hl : lv_has ls 4 [(0, .ref (a 0)), (1, .int v1), (2, .int v2)] := hl
  have B_Mo_jump_116 : ∀ (σ : nS) (H : Heap) (locs : List Loc) (ls : Array Slot), (o_Mo_jump_116 σ) → lv_has ls 4 [] → St D (wM cI cZ a) A s σ H locs → F = s_Mo_jump_116 σ → W p l e ({ frames := 3, cells := 0, slots := 0, locals := 65 } : Room) s m args below meth c H locs 0 0 Q (F0 m 116 ls []) := by
    intro σ H locs ls hok hl S hq
    refine lv_iconst (v := 0) hx hb d_Mo_jump_116 (by decide) ?_
    exact ret _ _ _ _ _ _ S hq d_Mo_jump_117
  have B_Mo_jump_73 : ∀ (v1 : Int32) (v2 : Int32) (v3 : Int32) (σ : nS) (H : Heap) (locs : List Loc) (ls : Array Slot), (vp_in v3 16) → (o_Mo_jump_73 v1 v2 v3 σ) → lv_has ls 4 [(0, .ref (a 0)), (1, .int v1), (2, .int v2), (3, .int v3)] → St D (wM cI cZ a) A s σ H locs → F = s_Mo_jump_73 v1 v2 v3 σ → W p l e ({ frames := 3, cells := 0, slots := 0, locals := 65 } : Room) s m args below meth c H locs 0 0 Q (F0 m 73 ls []) := by
    intro v1 v2 v3 σ H locs ls qv3_16 hok hl S hq
    refine lv_aload_n hx hb d_Mo_jump_73 rfl (lv_at hl 0 rfl) ?_
    refine g_Mo_13 hx hb hts hown hK S.1 d_Mo_jump_74 ?_
    refine lv_bipush (v := 13) hx hb d_Mo_jump_77 (by decide) ?_
    refine lv_iload_n hx hb d_Mo_jump_79 rfl (lv_at hl 2 rfl) ?_
    refine st_M_2 (k := 13) hx hb hK S (vin_dec (by decide)) (by decide) d_Mo_jump_80 (fun H locs S => ?_)
    refine lv_iload_n hx hb d_Mo_jump_81 rfl (lv_at hl 3 rfl) ?_
    refine lv_if_le (tgt := 111) hx hb d_Mo_jump_82 rfl (fun h82 => ?_) (fun h82 => ?_)
    · have hq := hq.trans (if_pos h82)
      have hok := ok_pos h82 hok
      refine lv_aload_n hx hb d_Mo_jump_111 rfl (lv_at hl 0 rfl) ?_
      refine lv_iload_n hx hb d_Mo_jump_112 rfl (lv_at hl 2 rfl) ?_
      obtain ⟨g1, hok⟩ := hok
      refine callVV X S hl (c_Mo_comeBack v2 _ g1) v_Mo_144 0 6 ⟨rfl, rfl⟩ (rk_dec (by decide)) rfl rfl (Nat.le_of_ble_eq_true rfl) d_Mo_jump_113 (fun σ1 H locs e1 S => ?_)
      have hq := hq.trans (ap1_eq e1)
      have hok := ok_ap1 e1 hok
      exact B_Mo_jump_116 _ _ _ _ hok (lv_sub hl [] rfl) S hq
    · have hq := hq.trans (if_neg h82)
      have hok := ok_neg h82 hok
      refine lv_aload_n hx hb d_Mo_jump_85 rfl (lv_at hl 0 rfl) ?_
      refine lv_dup hx hb d_Mo_jump_86 rfl ?_
      refine g_Mo_141 hx hb hts hown hK S.1 d_Mo_jump_87 ?_
      refine lv_iconst (v := 1) hx hb d_Mo_jump_90 (by decide) ?_
      refine lv_iadd hx hb d_Mo_jump_91 ?_
      refine p_Mo_141 hx hb hts hown hK S d_Mo_jump_92 (fun H locs S => ?_)
      refine lv_aload_n hx hb d_Mo_jump_95 rfl (lv_at hl 0 rfl) ?_
      refine g_Mo_13 hx hb hts hown hK S.1 d_Mo_jump_96 ?_
      refine lv_bipush (v := 14) hx hb d_Mo_jump_99 (by decide) ?_
      refine lv_iload_n hx hb d_Mo_jump_101 rfl (lv_at hl 1 rfl) ?_
      refine st_M_2 (k := 14) hx hb hK S (vin_dec (by decide)) (by decide) d_Mo_jump_102 (fun H locs S => ?_)
      refine lv_aload_n hx hb d_Mo_jump_103 rfl (lv_at hl 0 rfl) ?_
      refine lv_iload_n hx hb d_Mo_jump_104 rfl (lv_at hl 3 rfl) ?_
      obtain ⟨g2, hok⟩ := hok
      refine callVV X S hl (c_Mo_enter v3 _ qv3_16 g2) v_Mo_110 0 6 ⟨rfl, rfl⟩ (rk_dec (by decide)) rfl rfl (Nat.le_of_ble_eq_true rfl) d_Mo_jump_105 (fun σ1 H locs e1 S => ?_)
      have hq := hq.trans (ap1_eq e1)
      have hok := ok_ap1 e1 hok
      refine lv_goto (tgt := 116) hx hb d_Mo_jump_108 rfl ?_
      exact B_Mo_jump_116 _ _ _ _ hok (lv_sub hl [] rfl) S hq
  have B_Mo_jump_52 : ∀ (v1 : Int32) (v2 : Int32) (σ : nS) (H : Heap) (locs : List Loc) (ls : Array Slot), (o_Mo_jump_52 v1 v2 σ) → lv_has ls 4 [(0, .ref (a 0)), (1, .int v1), (2, .int v2)] → St D (wM cI cZ a) A s σ H locs → F = s_Mo_jump_52 v1 v2 σ → W p l e ({ frames := 3, cells := 0, slots := 0, locals := 65 } : Room) s m args below meth c H locs 0 0 Q (F0 m 52 ls []) := by
    intro v1 v2 σ H locs ls hok hl S hq
    refine lv_aload_n hx hb d_Mo_jump_52 rfl (lv_at hl 0 rfl) ?_
    refine callVIp X S hl (c_Mo_due _) v_Mo_135 0 6 ⟨rfl, rfl⟩ (rk_dec (by decide)) rfl rfl (Nat.le_of_ble_eq_true rfl) d_Mo_jump_53 (fun H locs S => ?_)
    refine lv_istore_n hx hb d_Mo_jump_56 rfl hl (by decide) rfl (fun ls hl => ?_)
    refine lv_iload_n hx hb d_Mo_jump_57 rfl (lv_at hl 0 rfl) ?_
    refine lv_if_ne (tgt := 73) hx hb d_Mo_jump_58 rfl (fun h58 => ?_) (fun h58 => ?_)
    · have hq := hq.trans (if_neg h58)
      have hok := ok_neg h58 hok
      exact B_Mo_jump_73 _ _ _ _ _ _ _ (mdue_in _) hok (lv_sub hl [1, 2, 3, 0] rfl) S hq
    · have hq := hq.trans (if_pos h58)
      have hok := ok_pos h58 hok
      refine lv_aload_n hx hb d_Mo_jump_61 rfl (lv_at hl 1 rfl) ?_
      refine lv_iload_n hx hb d_Mo_jump_62 rfl (lv_at hl 3 rfl) ?_
      refine lv_iload_n hx hb d_Mo_jump_63 rfl (lv_at hl 2 rfl) ?_
      obtain ⟨g3, hok⟩ := hok
      refine callVZp X S hl (c_Mo_isBack v2 v1 _ g3) v_Mo_138 0 6 ⟨rfl, rfl⟩ (rk_dec (by decide)) rfl rfl (Nat.le_of_ble_eq_true rfl) d_Mo_jump_64 (fun H locs S => ?_)
      refine r_ifneZ (tgt := 73) hx hb d_Mo_jump_67 rfl (fun h67 => ?_) (fun h67 => ?_)
      · have hq := hq.trans (if_pos h67)
        have hok := ok_pos h67 hok
        exact B_Mo_jump_73 _ _ _ _ _ _ _ (mdue_in _) hok (lv_sub hl [1, 2, 3, 0] rfl) S hq
      · have hq := hq.trans (if_neg h67)
        have hok := ok_neg h67 hok
        refine lv_bipush (v := 6) hx hb d_Mo_jump_70 (by decide) ?_
        exact ret _ _ _ _ _ _ S hq d_Mo_jump_72
  refine lv_aload_n hx hb d_Mo_jump_0 rfl (lv_at hl 0 rfl) ?_
  refine lv_iload_n hx hb d_Mo_jump_1 rfl (lv_at hl 1 rfl) ?_
  refine callVZp X S hl (c_Mo_isReturn v1 _) v_Mo_132 0 6 ⟨rfl, rfl⟩ (rk_dec (by decide)) rfl rfl (Nat.le_of_ble_eq_true rfl) d_Mo_jump_2 (fun H locs S => ?_)
  refine r_ifneZ (tgt := 29) hx hb d_Mo_jump_5 rfl (fun h5 => ?_) (fun h5 => ?_)
  · have hq := hq.trans (if_pos h5)
    have hok := ok_pos h5 hok
    refine lv_aload_n hx hb d_Mo_jump_29 rfl (lv_at hl 0 rfl) ?_
    refine g_Mo_26 hx hb hts hown hK S.1 d_Mo_jump_30 ?_
    refine lv_aload_n hx hb d_Mo_jump_33 rfl (lv_at hl 0 rfl) ?_
    refine g_Mo_74 hx hb hts hown hK S.1 d_Mo_jump_34 ?_
    refine lv_iconst (v := 0) hx hb d_Mo_jump_37 (by decide) ?_
    obtain ⟨g4, hok⟩ := hok
    refine st_M_6 (k := ((σ 8 10)).toNatClampNeg) (b := false) hx hb hK S g4 rfl d_Mo_jump_38 (fun H locs S => ?_)
    refine lv_aload_n hx hb d_Mo_jump_39 rfl (lv_at hl 0 rfl) ?_
    refine g_Mo_74 hx hb hts hown hK S.1 d_Mo_jump_40 ?_
    refine lv_iconst (v := 2) hx hb d_Mo_jump_43 (by decide) ?_
    refine lv_icmp_eq (tgt := 52) hx hb d_Mo_jump_44 rfl (fun h44 => ?_) (fun h44 => ?_)
    · have hq := hq.trans (if_pos h44)
      have hok := ok_pos h44 hok
      exact B_Mo_jump_52 _ _ _ _ _ _ hok (lv_sub hl [0, 1, 2] rfl) S hq
    · have hq := hq.trans (if_neg h44)
      have hok := ok_neg h44 hok
      refine lv_aload_n hx hb d_Mo_jump_47 rfl (lv_at hl 0 rfl) ?_
      refine lv_iconst (v := 0) hx hb d_Mo_jump_48 (by decide) ?_
      refine p_Mo_67 (b := false) hx hb hts hown hK S d_Mo_jump_49 (fun H locs S => ?_)
      exact B_Mo_jump_52 _ _ _ _ _ _ hok (lv_sub hl [0, 1, 2] rfl) S hq
  · have hq := hq.trans (if_neg h5)
    have hok := ok_neg h5 hok
    refine lv_aload_n hx hb d_Mo_jump_8 rfl (lv_at hl 0 rfl) ?_
    refine g_Mo_13 hx hb hts hown hK S.1 d_Mo_jump_9 ?_
    refine lv_bipush (v := 13) hx hb d_Mo_jump_12 (by decide) ?_
    refine lv_iload_n hx hb d_Mo_jump_14 rfl (lv_at hl 2 rfl) ?_
    refine st_M_2 (k := 13) hx hb hK S (vin_dec (by decide)) (by decide) d_Mo_jump_15 (fun H locs S => ?_)
    refine lv_aload_n hx hb d_Mo_jump_16 rfl (lv_at hl 0 rfl) ?_
    refine g_Mo_13 hx hb hts hown hK S.1 d_Mo_jump_17 ?_
    refine lv_bipush (v := 15) hx hb d_Mo_jump_20 (by decide) ?_
    refine lv_iload_n hx hb d_Mo_jump_22 rfl (lv_at hl 1 rfl) ?_
    refine lv_bipush (v := -2) hx hb d_Mo_jump_23 (by decide) ?_
    refine lv_iand hx hb d_Mo_jump_25 ?_
    refine st_M_2 (k := 15) hx hb hK S (vin_dec (by decide)) (by decide) d_Mo_jump_26 (fun H locs S => ?_)
    refine lv_iconst (v := 0) hx hb d_Mo_jump_27 (by decide) ?_
    exact ret _ _ _ _ _ _ S hq d_Mo_jump_28
set_option maxHeartbeats 4000000 in
set_option maxRecDepth 100000 in
theorem c_Mo_exchange (v1 : Int32) (σ : nS) (hok : o_Mo_exchange v1 σ) : CtI l D cI cZ (wM cI cZ a) exM y_Mo_exchange b_Mo_exchange 3 { frames := 4, cells := 0, slots := 0, locals := 88 } [.ref (a 0), .int v1] σ (s_Mo_exchange v1 σ) := by
  generalize hF : s_Mo_exchange v1 σ = F
  refine metI exM_ok (by decide) (Nat.le_of_ble_eq_true rfl) (fun p e s m args below meth c A Q ls X S hl ret => ?_)
  have hq := hF.symm
  obtain ⟨hx, hb, hml, hown, hts, hK, hA, hE, hlk, hEo⟩ := id X
  have hl : lv_has ls 3 [(0, .ref (a 0)), (1, .int v1)] := hl
  refine lv_iload_n hx hb d_Mo_exchange_0 rfl (lv_at hl 1 rfl) ?_
  refine lv_iconst (v := 3) hx hb d_Mo_exchange_1 (by decide) ?_
  refine lv_ishr hx hb d_Mo_exchange_2 ?_
  refine lv_bipush (v := 15) hx hb d_Mo_exchange_3 (by decide) ?_
  refine lv_iand hx hb d_Mo_exchange_5 ?_
  refine lv_istore_n hx hb d_Mo_exchange_6 rfl hl (by decide) rfl (fun ls hl => ?_)
  refine lv_iload_n hx hb d_Mo_exchange_7 rfl (lv_at hl 0 rfl) ?_
  refine lv_bipush (v := 15) hx hb d_Mo_exchange_8 (by decide) ?_
  refine lv_icmp_ne (tgt := 18) hx hb d_Mo_exchange_10 rfl (fun h10 => ?_) (fun h10 => ?_)
  · have hq := hq.trans (if_neg h10)
    have hok := ok_neg h10 hok
    refine lv_aload_n hx hb d_Mo_exchange_18 rfl (lv_at hl 1 rfl) ?_
    refine lv_aload_n hx hb d_Mo_exchange_19 rfl (lv_at hl 1 rfl) ?_
    refine g_Mo_13 hx hb hts hown hK S.1 d_Mo_exchange_20 ?_
    refine lv_iload_n hx hb d_Mo_exchange_23 rfl (lv_at hl 0 rfl) ?_
    refine ld_M_2 (k := (((v1 >>> ((3 : Int32) &&& 31)) &&& (15 : Int32))).toNatClampNeg) hx hb hK S.1 (vin_and15_16 _) rfl d_Mo_exchange_24 ?_
    refine lv_aload_n hx hb d_Mo_exchange_25 rfl (lv_at hl 1 rfl) ?_
    refine g_Mo_13 hx hb hts hown hK S.1 d_Mo_exchange_26 ?_
    refine lv_bipush (v := 13) hx hb d_Mo_exchange_29 (by decide) ?_
    refine ld_M_2 (k := 13) hx hb hK S.1 (vin_dec (by decide)) (by decide) d_Mo_exchange_31 ?_
    obtain ⟨g1, hok⟩ := hok
    refine callVI X S hl (c_Mo_jump (σ 0 (((v1 >>> ((3 : Int32) &&& 31)) &&& (15 : Int32))).toNatClampNeg) (σ 0 13) _ g1) v_Mo_147 0 6 ⟨rfl, rfl⟩ (rk_dec (by decide)) rfl rfl (Nat.le_of_ble_eq_true rfl) d_Mo_exchange_32 (fun r1 σ1 H locs e1 S => ?_)
    have hq := hq.trans (ap2_eq e1)
    have hok := ok_ap2 e1 hok
    exact ret _ _ _ _ _ _ S hq d_Mo_exchange_35
  · have hq := hq.trans (if_pos h10)
    have hok := ok_pos h10 hok
    refine lv_bipush (v := 6) hx hb d_Mo_exchange_13 (by decide) ?_
    refine lv_goto (tgt := 35) hx hb d_Mo_exchange_15 rfl ?_
    exact ret _ _ _ _ _ _ S hq d_Mo_exchange_35
set_option maxHeartbeats 4000000 in
set_option maxRecDepth 100000 in
theorem c_Mo_move (v1 : Int32) (v2 : Int32) (v3 : Bool) (σ : nS) (qv1_16 : vp_in v1 16) (hok : o_Mo_move v1 v2 v3 σ) : CtI l D cI cZ (wM cI cZ a) exM y_Mo_move b_Mo_move 5 { frames := 2, cells := 0, slots := 0, locals := 48 } [.ref (a 0), .int v1, .int v2, .int (bI v3)] σ (s_Mo_move v1 v2 v3 σ) := by
  generalize hF : s_Mo_move v1 v2 v3 σ = F
  refine metI exM_ok (by decide) (Nat.le_of_ble_eq_true rfl) (fun p e s m args below meth c A Q ls X S hl ret => ?_)
  have hq := hF.symm
  obtain ⟨hx, hb, hml, hown, hts, hK, hA, hE, hlk, hEo⟩ := id X
  have hl : lv_has ls 5 [(0, .ref (a 0)), (1, .int v1), (2, .int v2), (3, .int (bI v3))] := hl
  have B_Mo_move_54 : ∀ (σ : nS) (H : Heap) (locs : List Loc) (ls : Array Slot), (o_Mo_move_54 σ) → lv_has ls 5 [] → St D (wM cI cZ a) A s σ H locs → F = s_Mo_move_54 σ → W p l e ({ frames := 2, cells := 0, slots := 0, locals := 48 } : Room) s m args below meth c H locs 0 0 Q (F0 m 54 ls []) := by
    intro σ H locs ls hok hl S hq
    refine lv_iconst (v := 0) hx hb d_Mo_move_54 (by decide) ?_
    exact ret _ _ _ _ _ _ S hq d_Mo_move_55
  have B_Mo_move_12 : ∀ (v1 : Int32) (v2 : Int32) (v3 : Bool) (k1 : Int32) (k3 : Int32) (σ : nS) (H : Heap) (locs : List Loc) (ls : Array Slot), (vp_in v1 16) → (o_Mo_move_12 v1 v2 v3 k1 k3 σ) → lv_has ls 5 [(0, .ref (a 0)), (1, .int v1), (2, .int v2), (3, .int (bI v3))] → St D (wM cI cZ a) A s σ H locs → F = s_Mo_move_12 v1 v2 v3 k1 k3 σ → W p l e ({ frames := 2, cells := 0, slots := 0, locals := 48 } : Room) s m args below meth c H locs 0 0 Q (F0 m 12 ls [.int k3, .int (1 : Int32), .int k1, .ref (a 0)]) := by
    intro v1 v2 v3 k1 k3 σ H locs ls qv1_16 hok hl S hq
    obtain ⟨g1, hok⟩ := hok
    refine callVIp X S hl (c_Mo_faultOf k1 (1 : Int32) k3 _ g1) v_Mo_151 0 6 ⟨rfl, rfl⟩ (rk_dec (by decide)) rfl rfl (Nat.le_of_ble_eq_true rfl) d_Mo_move_12 (fun H locs S => ?_)
    refine lv_istore hx hb d_Mo_move_15 hl (by decide) rfl (fun ls hl => ?_)
    refine lv_iload hx hb d_Mo_move_17 (lv_at hl 0 rfl) ?_
    refine lv_if_le (tgt := 25) hx hb d_Mo_move_19 rfl (fun h19 => ?_) (fun h19 => ?_)
    · have hq := hq.trans (if_pos h19)
      have hok := ok_pos h19 hok
      refine lv_iload_n hx hb d_Mo_move_25 rfl (lv_at hl 4 rfl) ?_
      refine r_ifeqZ (tgt := 43) hx hb d_Mo_move_26 rfl (fun h26 => ?_) (fun h26 => ?_)
      · have hq := hq.trans (if_neg h26)
        have hok := ok_neg h26 hok
        refine lv_aload_n hx hb d_Mo_move_43 rfl (lv_at hl 1 rfl) ?_
        refine lv_iload_n hx hb d_Mo_move_44 rfl (lv_at hl 3 rfl) ?_
        refine lv_aload_n hx hb d_Mo_move_45 rfl (lv_at hl 1 rfl) ?_
        refine g_Mo_13 hx hb hts hown hK S.1 d_Mo_move_46 ?_
        refine lv_iload_n hx hb d_Mo_move_49 rfl (lv_at hl 2 rfl) ?_
        refine ld_M_2 (k := (v1).toNatClampNeg) hx hb hK S.1 qv1_16 rfl d_Mo_move_50 ?_
        obtain ⟨g2, hok⟩ := hok
        refine callVV X S hl (c_Mo_store v2 (σ 0 (v1).toNatClampNeg) _ g2) v_Mo_102 0 6 ⟨rfl, rfl⟩ (rk_dec (by decide)) rfl rfl (Nat.le_of_ble_eq_true rfl) d_Mo_move_51 (fun σ1 H locs e1 S => ?_)
        have hq := hq.trans (ap1_eq e1)
        have hok := ok_ap1 e1 hok
        exact B_Mo_move_54 _ _ _ _ hok (lv_sub hl [] rfl) S hq
      · have hq := hq.trans (if_pos h26)
        have hok := ok_pos h26 hok
        refine lv_aload_n hx hb d_Mo_move_29 rfl (lv_at hl 1 rfl) ?_
        refine g_Mo_13 hx hb hts hown hK S.1 d_Mo_move_30 ?_
        refine lv_iload_n hx hb d_Mo_move_33 rfl (lv_at hl 2 rfl) ?_
        refine lv_aload_n hx hb d_Mo_move_34 rfl (lv_at hl 1 rfl) ?_
        refine lv_iload_n hx hb d_Mo_move_35 rfl (lv_at hl 3 rfl) ?_
        obtain ⟨g3, hok⟩ := hok
        refine callVIp X S hl (c_Mo_load v2 _ g3) v_Mo_77 0 6 ⟨rfl, rfl⟩ (rk_dec (by decide)) rfl rfl (Nat.le_of_ble_eq_true rfl) d_Mo_move_36 (fun H locs S => ?_)
        refine st_M_2 (k := (v1).toNatClampNeg) hx hb hK S qv1_16 rfl d_Mo_move_39 (fun H locs S => ?_)
        refine lv_goto (tgt := 54) hx hb d_Mo_move_40 rfl ?_
        exact B_Mo_move_54 _ _ _ _ hok (lv_sub hl [] rfl) S hq
    · have hq := hq.trans (if_neg h19)
      have hok := ok_neg h19 hok
      refine lv_iload hx hb d_Mo_move_22 (lv_at hl 0 rfl) ?_
      exact ret _ _ _ _ _ _ S hq d_Mo_move_24
  refine lv_aload_n hx hb d_Mo_move_0 rfl (lv_at hl 0 rfl) ?_
  refine lv_iload_n hx hb d_Mo_move_1 rfl (lv_at hl 2 rfl) ?_
  refine lv_iconst (v := 1) hx hb d_Mo_move_2 (by decide) ?_
  refine lv_iload_n hx hb d_Mo_move_3 rfl (lv_at hl 3 rfl) ?_
  refine r_ifeqZ (tgt := 11) hx hb d_Mo_move_4 rfl (fun h4 => ?_) (fun h4 => ?_)
  · have hq := hq.trans (if_neg h4)
    have hok := ok_neg h4 hok
    refine lv_iconst (v := 2) hx hb d_Mo_move_11 (by decide) ?_
    exact B_Mo_move_12 _ _ _ _ _ _ _ _ _ qv1_16 hok (lv_sub hl [0, 1, 2, 3] rfl) S hq
  · have hq := hq.trans (if_pos h4)
    have hok := ok_pos h4 hok
    refine lv_iconst (v := 1) hx hb d_Mo_move_7 (by decide) ?_
    refine lv_goto (tgt := 12) hx hb d_Mo_move_8 rfl ?_
    exact B_Mo_move_12 _ _ _ _ _ _ _ _ _ qv1_16 hok (lv_sub hl [0, 1, 2, 3] rfl) S hq
set_option maxHeartbeats 4000000 in
set_option maxRecDepth 100000 in
theorem c_Mo_ones (v0 : Int32) (σ : nS) : CtI l D cI cZ (wM cI cZ a) exM y_Mo_ones b_Mo_ones 3 { frames := 0, cells := 0, slots := 0, locals := 0 } [.int v0] σ (s_Mo_ones v0, σ) := by
  generalize hF : s_Mo_ones v0 = F
  refine metIp exM_ok (by decide) (Nat.le_of_ble_eq_true rfl) (fun p e s m args below meth c A Q ls X S hl ret => ?_)
  have hq := hF.symm
  obtain ⟨hx, hb, hml, hown, hts, hK, hA, hE, hlk, hEo⟩ := id X
  have hl : lv_has ls 3 [(0, .int v0)] := hl
  have B_Mo_ones_4_9 : ∀ (v0 : Int32) (v1 : Int32) (H : Heap) (locs : List Loc) (ls : Array Slot), lv_has ls 3 [(0, .int v0), (1, .int v1), (2, .int (9 : Int32))] → St D (wM cI cZ a) A s σ H locs → F = s_Mo_ones_4_9 v0 v1 → W p l e ({ frames := 0, cells := 0, slots := 0, locals := 0 } : Room) s m args below meth c H locs 0 0 Q (F0 m 4 ls []) := by
    intro v0 v1 H locs ls hl S hq
    refine lv_iload_n hx hb d_Mo_ones_4 rfl (lv_at hl 2 rfl) ?_
    refine lv_bipush (v := 9) hx hb d_Mo_ones_5 (by decide) ?_
    refine lv_icmp_ge (tgt := 24) hx hb d_Mo_ones_7 rfl (fun _ => ?_) (fun h9 => absurd (by decide) h9)
    refine lv_iload_n hx hb d_Mo_ones_24 rfl (lv_at hl 1 rfl) ?_
    exact ret _ _ _ _ _ S hq d_Mo_ones_25
  have B_Mo_ones_4_8 : ∀ (v0 : Int32) (v1 : Int32) (H : Heap) (locs : List Loc) (ls : Array Slot), lv_has ls 3 [(0, .int v0), (1, .int v1), (2, .int (8 : Int32))] → St D (wM cI cZ a) A s σ H locs → F = s_Mo_ones_4_8 v0 v1 → W p l e ({ frames := 0, cells := 0, slots := 0, locals := 0 } : Room) s m args below meth c H locs 0 0 Q (F0 m 4 ls []) := by
    intro v0 v1 H locs ls hl S hq
    refine lv_iload_n hx hb d_Mo_ones_4 rfl (lv_at hl 2 rfl) ?_
    refine lv_bipush (v := 9) hx hb d_Mo_ones_5 (by decide) ?_
    refine lv_icmp_ge (tgt := 24) hx hb d_Mo_ones_7 rfl (fun h9 => absurd h9 (by decide)) (fun _ => ?_)
    refine lv_iload_n hx hb d_Mo_ones_10 rfl (lv_at hl 1 rfl) ?_
    refine lv_iload_n hx hb d_Mo_ones_11 rfl (lv_at hl 0 rfl) ?_
    refine lv_iload_n hx hb d_Mo_ones_12 rfl (lv_at hl 2 rfl) ?_
    refine lv_ishr hx hb d_Mo_ones_13 ?_
    refine lv_iconst (v := 1) hx hb d_Mo_ones_14 (by decide) ?_
    refine lv_iand hx hb d_Mo_ones_15 ?_
    refine lv_iadd hx hb d_Mo_ones_16 ?_
    refine lv_istore_n hx hb d_Mo_ones_17 rfl hl (by decide) rfl (fun ls hl => ?_)
    refine lv_iinc (k := 2) (v := (9 : Int32)) hx hb d_Mo_ones_18 hl rfl (by first | rfl | decide) (by decide) rfl (fun ls hl => ?_)
    refine lv_goto (tgt := 4) hx hb d_Mo_ones_21 rfl ?_
    exact B_Mo_ones_4_9 _ _ _ _ _ (lv_sub hl [2, 1, 0] rfl) S hq
  have B_Mo_ones_4_7 : ∀ (v0 : Int32) (v1 : Int32) (H : Heap) (locs : List Loc) (ls : Array Slot), lv_has ls 3 [(0, .int v0), (1, .int v1), (2, .int (7 : Int32))] → St D (wM cI cZ a) A s σ H locs → F = s_Mo_ones_4_7 v0 v1 → W p l e ({ frames := 0, cells := 0, slots := 0, locals := 0 } : Room) s m args below meth c H locs 0 0 Q (F0 m 4 ls []) := by
    intro v0 v1 H locs ls hl S hq
    refine lv_iload_n hx hb d_Mo_ones_4 rfl (lv_at hl 2 rfl) ?_
    refine lv_bipush (v := 9) hx hb d_Mo_ones_5 (by decide) ?_
    refine lv_icmp_ge (tgt := 24) hx hb d_Mo_ones_7 rfl (fun h9 => absurd h9 (by decide)) (fun _ => ?_)
    refine lv_iload_n hx hb d_Mo_ones_10 rfl (lv_at hl 1 rfl) ?_
    refine lv_iload_n hx hb d_Mo_ones_11 rfl (lv_at hl 0 rfl) ?_
    refine lv_iload_n hx hb d_Mo_ones_12 rfl (lv_at hl 2 rfl) ?_
    refine lv_ishr hx hb d_Mo_ones_13 ?_
    refine lv_iconst (v := 1) hx hb d_Mo_ones_14 (by decide) ?_
    refine lv_iand hx hb d_Mo_ones_15 ?_
    refine lv_iadd hx hb d_Mo_ones_16 ?_
    refine lv_istore_n hx hb d_Mo_ones_17 rfl hl (by decide) rfl (fun ls hl => ?_)
    refine lv_iinc (k := 2) (v := (8 : Int32)) hx hb d_Mo_ones_18 hl rfl (by first | rfl | decide) (by decide) rfl (fun ls hl => ?_)
    refine lv_goto (tgt := 4) hx hb d_Mo_ones_21 rfl ?_
    exact B_Mo_ones_4_8 _ _ _ _ _ (lv_sub hl [2, 1, 0] rfl) S hq
  have B_Mo_ones_4_6 : ∀ (v0 : Int32) (v1 : Int32) (H : Heap) (locs : List Loc) (ls : Array Slot), lv_has ls 3 [(0, .int v0), (1, .int v1), (2, .int (6 : Int32))] → St D (wM cI cZ a) A s σ H locs → F = s_Mo_ones_4_6 v0 v1 → W p l e ({ frames := 0, cells := 0, slots := 0, locals := 0 } : Room) s m args below meth c H locs 0 0 Q (F0 m 4 ls []) := by
    intro v0 v1 H locs ls hl S hq
    refine lv_iload_n hx hb d_Mo_ones_4 rfl (lv_at hl 2 rfl) ?_
    refine lv_bipush (v := 9) hx hb d_Mo_ones_5 (by decide) ?_
    refine lv_icmp_ge (tgt := 24) hx hb d_Mo_ones_7 rfl (fun h9 => absurd h9 (by decide)) (fun _ => ?_)
    refine lv_iload_n hx hb d_Mo_ones_10 rfl (lv_at hl 1 rfl) ?_
    refine lv_iload_n hx hb d_Mo_ones_11 rfl (lv_at hl 0 rfl) ?_
    refine lv_iload_n hx hb d_Mo_ones_12 rfl (lv_at hl 2 rfl) ?_
    refine lv_ishr hx hb d_Mo_ones_13 ?_
    refine lv_iconst (v := 1) hx hb d_Mo_ones_14 (by decide) ?_
    refine lv_iand hx hb d_Mo_ones_15 ?_
    refine lv_iadd hx hb d_Mo_ones_16 ?_
    refine lv_istore_n hx hb d_Mo_ones_17 rfl hl (by decide) rfl (fun ls hl => ?_)
    refine lv_iinc (k := 2) (v := (7 : Int32)) hx hb d_Mo_ones_18 hl rfl (by first | rfl | decide) (by decide) rfl (fun ls hl => ?_)
    refine lv_goto (tgt := 4) hx hb d_Mo_ones_21 rfl ?_
    exact B_Mo_ones_4_7 _ _ _ _ _ (lv_sub hl [2, 1, 0] rfl) S hq
  have B_Mo_ones_4_5 : ∀ (v0 : Int32) (v1 : Int32) (H : Heap) (locs : List Loc) (ls : Array Slot), lv_has ls 3 [(0, .int v0), (1, .int v1), (2, .int (5 : Int32))] → St D (wM cI cZ a) A s σ H locs → F = s_Mo_ones_4_5 v0 v1 → W p l e ({ frames := 0, cells := 0, slots := 0, locals := 0 } : Room) s m args below meth c H locs 0 0 Q (F0 m 4 ls []) := by
    intro v0 v1 H locs ls hl S hq
    refine lv_iload_n hx hb d_Mo_ones_4 rfl (lv_at hl 2 rfl) ?_
    refine lv_bipush (v := 9) hx hb d_Mo_ones_5 (by decide) ?_
    refine lv_icmp_ge (tgt := 24) hx hb d_Mo_ones_7 rfl (fun h9 => absurd h9 (by decide)) (fun _ => ?_)
    refine lv_iload_n hx hb d_Mo_ones_10 rfl (lv_at hl 1 rfl) ?_
    refine lv_iload_n hx hb d_Mo_ones_11 rfl (lv_at hl 0 rfl) ?_
    refine lv_iload_n hx hb d_Mo_ones_12 rfl (lv_at hl 2 rfl) ?_
    refine lv_ishr hx hb d_Mo_ones_13 ?_
    refine lv_iconst (v := 1) hx hb d_Mo_ones_14 (by decide) ?_
    refine lv_iand hx hb d_Mo_ones_15 ?_
    refine lv_iadd hx hb d_Mo_ones_16 ?_
    refine lv_istore_n hx hb d_Mo_ones_17 rfl hl (by decide) rfl (fun ls hl => ?_)
    refine lv_iinc (k := 2) (v := (6 : Int32)) hx hb d_Mo_ones_18 hl rfl (by first | rfl | decide) (by decide) rfl (fun ls hl => ?_)
    refine lv_goto (tgt := 4) hx hb d_Mo_ones_21 rfl ?_
    exact B_Mo_ones_4_6 _ _ _ _ _ (lv_sub hl [2, 1, 0] rfl) S hq
  have B_Mo_ones_4_4 : ∀ (v0 : Int32) (v1 : Int32) (H : Heap) (locs : List Loc) (ls : Array Slot), lv_has ls 3 [(0, .int v0), (1, .int v1), (2, .int (4 : Int32))] → St D (wM cI cZ a) A s σ H locs → F = s_Mo_ones_4_4 v0 v1 → W p l e ({ frames := 0, cells := 0, slots := 0, locals := 0 } : Room) s m args below meth c H locs 0 0 Q (F0 m 4 ls []) := by
    intro v0 v1 H locs ls hl S hq
    refine lv_iload_n hx hb d_Mo_ones_4 rfl (lv_at hl 2 rfl) ?_
    refine lv_bipush (v := 9) hx hb d_Mo_ones_5 (by decide) ?_
    refine lv_icmp_ge (tgt := 24) hx hb d_Mo_ones_7 rfl (fun h9 => absurd h9 (by decide)) (fun _ => ?_)
    refine lv_iload_n hx hb d_Mo_ones_10 rfl (lv_at hl 1 rfl) ?_
    refine lv_iload_n hx hb d_Mo_ones_11 rfl (lv_at hl 0 rfl) ?_
    refine lv_iload_n hx hb d_Mo_ones_12 rfl (lv_at hl 2 rfl) ?_
    refine lv_ishr hx hb d_Mo_ones_13 ?_
    refine lv_iconst (v := 1) hx hb d_Mo_ones_14 (by decide) ?_
    refine lv_iand hx hb d_Mo_ones_15 ?_
    refine lv_iadd hx hb d_Mo_ones_16 ?_
    refine lv_istore_n hx hb d_Mo_ones_17 rfl hl (by decide) rfl (fun ls hl => ?_)
    refine lv_iinc (k := 2) (v := (5 : Int32)) hx hb d_Mo_ones_18 hl rfl (by first | rfl | decide) (by decide) rfl (fun ls hl => ?_)
    refine lv_goto (tgt := 4) hx hb d_Mo_ones_21 rfl ?_
    exact B_Mo_ones_4_5 _ _ _ _ _ (lv_sub hl [2, 1, 0] rfl) S hq
  have B_Mo_ones_4_3 : ∀ (v0 : Int32) (v1 : Int32) (H : Heap) (locs : List Loc) (ls : Array Slot), lv_has ls 3 [(0, .int v0), (1, .int v1), (2, .int (3 : Int32))] → St D (wM cI cZ a) A s σ H locs → F = s_Mo_ones_4_3 v0 v1 → W p l e ({ frames := 0, cells := 0, slots := 0, locals := 0 } : Room) s m args below meth c H locs 0 0 Q (F0 m 4 ls []) := by
    intro v0 v1 H locs ls hl S hq
    refine lv_iload_n hx hb d_Mo_ones_4 rfl (lv_at hl 2 rfl) ?_
    refine lv_bipush (v := 9) hx hb d_Mo_ones_5 (by decide) ?_
    refine lv_icmp_ge (tgt := 24) hx hb d_Mo_ones_7 rfl (fun h9 => absurd h9 (by decide)) (fun _ => ?_)
    refine lv_iload_n hx hb d_Mo_ones_10 rfl (lv_at hl 1 rfl) ?_
    refine lv_iload_n hx hb d_Mo_ones_11 rfl (lv_at hl 0 rfl) ?_
    refine lv_iload_n hx hb d_Mo_ones_12 rfl (lv_at hl 2 rfl) ?_
    refine lv_ishr hx hb d_Mo_ones_13 ?_
    refine lv_iconst (v := 1) hx hb d_Mo_ones_14 (by decide) ?_
    refine lv_iand hx hb d_Mo_ones_15 ?_
    refine lv_iadd hx hb d_Mo_ones_16 ?_
    refine lv_istore_n hx hb d_Mo_ones_17 rfl hl (by decide) rfl (fun ls hl => ?_)
    refine lv_iinc (k := 2) (v := (4 : Int32)) hx hb d_Mo_ones_18 hl rfl (by first | rfl | decide) (by decide) rfl (fun ls hl => ?_)
    refine lv_goto (tgt := 4) hx hb d_Mo_ones_21 rfl ?_
    exact B_Mo_ones_4_4 _ _ _ _ _ (lv_sub hl [2, 1, 0] rfl) S hq
  have B_Mo_ones_4_2 : ∀ (v0 : Int32) (v1 : Int32) (H : Heap) (locs : List Loc) (ls : Array Slot), lv_has ls 3 [(0, .int v0), (1, .int v1), (2, .int (2 : Int32))] → St D (wM cI cZ a) A s σ H locs → F = s_Mo_ones_4_2 v0 v1 → W p l e ({ frames := 0, cells := 0, slots := 0, locals := 0 } : Room) s m args below meth c H locs 0 0 Q (F0 m 4 ls []) := by
    intro v0 v1 H locs ls hl S hq
    refine lv_iload_n hx hb d_Mo_ones_4 rfl (lv_at hl 2 rfl) ?_
    refine lv_bipush (v := 9) hx hb d_Mo_ones_5 (by decide) ?_
    refine lv_icmp_ge (tgt := 24) hx hb d_Mo_ones_7 rfl (fun h9 => absurd h9 (by decide)) (fun _ => ?_)
    refine lv_iload_n hx hb d_Mo_ones_10 rfl (lv_at hl 1 rfl) ?_
    refine lv_iload_n hx hb d_Mo_ones_11 rfl (lv_at hl 0 rfl) ?_
    refine lv_iload_n hx hb d_Mo_ones_12 rfl (lv_at hl 2 rfl) ?_
    refine lv_ishr hx hb d_Mo_ones_13 ?_
    refine lv_iconst (v := 1) hx hb d_Mo_ones_14 (by decide) ?_
    refine lv_iand hx hb d_Mo_ones_15 ?_
    refine lv_iadd hx hb d_Mo_ones_16 ?_
    refine lv_istore_n hx hb d_Mo_ones_17 rfl hl (by decide) rfl (fun ls hl => ?_)
    refine lv_iinc (k := 2) (v := (3 : Int32)) hx hb d_Mo_ones_18 hl rfl (by first | rfl | decide) (by decide) rfl (fun ls hl => ?_)
    refine lv_goto (tgt := 4) hx hb d_Mo_ones_21 rfl ?_
    exact B_Mo_ones_4_3 _ _ _ _ _ (lv_sub hl [2, 1, 0] rfl) S hq
  have B_Mo_ones_4_1 : ∀ (v0 : Int32) (v1 : Int32) (H : Heap) (locs : List Loc) (ls : Array Slot), lv_has ls 3 [(0, .int v0), (1, .int v1), (2, .int (1 : Int32))] → St D (wM cI cZ a) A s σ H locs → F = s_Mo_ones_4_1 v0 v1 → W p l e ({ frames := 0, cells := 0, slots := 0, locals := 0 } : Room) s m args below meth c H locs 0 0 Q (F0 m 4 ls []) := by
    intro v0 v1 H locs ls hl S hq
    refine lv_iload_n hx hb d_Mo_ones_4 rfl (lv_at hl 2 rfl) ?_
    refine lv_bipush (v := 9) hx hb d_Mo_ones_5 (by decide) ?_
    refine lv_icmp_ge (tgt := 24) hx hb d_Mo_ones_7 rfl (fun h9 => absurd h9 (by decide)) (fun _ => ?_)
    refine lv_iload_n hx hb d_Mo_ones_10 rfl (lv_at hl 1 rfl) ?_
    refine lv_iload_n hx hb d_Mo_ones_11 rfl (lv_at hl 0 rfl) ?_
    refine lv_iload_n hx hb d_Mo_ones_12 rfl (lv_at hl 2 rfl) ?_
    refine lv_ishr hx hb d_Mo_ones_13 ?_
    refine lv_iconst (v := 1) hx hb d_Mo_ones_14 (by decide) ?_
    refine lv_iand hx hb d_Mo_ones_15 ?_
    refine lv_iadd hx hb d_Mo_ones_16 ?_
    refine lv_istore_n hx hb d_Mo_ones_17 rfl hl (by decide) rfl (fun ls hl => ?_)
    refine lv_iinc (k := 2) (v := (2 : Int32)) hx hb d_Mo_ones_18 hl rfl (by first | rfl | decide) (by decide) rfl (fun ls hl => ?_)
    refine lv_goto (tgt := 4) hx hb d_Mo_ones_21 rfl ?_
    exact B_Mo_ones_4_2 _ _ _ _ _ (lv_sub hl [2, 1, 0] rfl) S hq
  have B_Mo_ones_4_0 : ∀ (v0 : Int32) (H : Heap) (locs : List Loc) (ls : Array Slot), lv_has ls 3 [(0, .int v0), (1, .int (0 : Int32)), (2, .int (0 : Int32))] → St D (wM cI cZ a) A s σ H locs → F = s_Mo_ones_4_0 v0 → W p l e ({ frames := 0, cells := 0, slots := 0, locals := 0 } : Room) s m args below meth c H locs 0 0 Q (F0 m 4 ls []) := by
    intro v0 H locs ls hl S hq
    refine lv_iload_n hx hb d_Mo_ones_4 rfl (lv_at hl 2 rfl) ?_
    refine lv_bipush (v := 9) hx hb d_Mo_ones_5 (by decide) ?_
    refine lv_icmp_ge (tgt := 24) hx hb d_Mo_ones_7 rfl (fun h9 => absurd h9 (by decide)) (fun _ => ?_)
    refine lv_iload_n hx hb d_Mo_ones_10 rfl (lv_at hl 1 rfl) ?_
    refine lv_iload_n hx hb d_Mo_ones_11 rfl (lv_at hl 0 rfl) ?_
    refine lv_iload_n hx hb d_Mo_ones_12 rfl (lv_at hl 2 rfl) ?_
    refine lv_ishr hx hb d_Mo_ones_13 ?_
    refine lv_iconst (v := 1) hx hb d_Mo_ones_14 (by decide) ?_
    refine lv_iand hx hb d_Mo_ones_15 ?_
    refine lv_iadd hx hb d_Mo_ones_16 ?_
    refine lv_istore_n hx hb d_Mo_ones_17 rfl hl (by decide) rfl (fun ls hl => ?_)
    refine lv_iinc (k := 2) (v := (1 : Int32)) hx hb d_Mo_ones_18 hl rfl (by first | rfl | decide) (by decide) rfl (fun ls hl => ?_)
    refine lv_goto (tgt := 4) hx hb d_Mo_ones_21 rfl ?_
    exact B_Mo_ones_4_1 _ _ _ _ _ (lv_sub hl [2, 1, 0] rfl) S hq
  refine lv_iconst (v := 0) hx hb d_Mo_ones_0 (by decide) ?_
  refine lv_istore_n hx hb d_Mo_ones_1 rfl hl (by decide) rfl (fun ls hl => ?_)
  refine lv_iconst (v := 0) hx hb d_Mo_ones_2 (by decide) ?_
  refine lv_istore_n hx hb d_Mo_ones_3 rfl hl (by decide) rfl (fun ls hl => ?_)
  exact B_Mo_ones_4_0 _ _ _ _ (lv_sub hl [2, 1, 0] rfl) S hq
end CT
