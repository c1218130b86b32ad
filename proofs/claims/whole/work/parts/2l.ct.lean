section CT
variable {l : Launch} {D : va_G} {cI cZ : ClassId} {a : Nat → Nat} {t : Nat}
set_option maxHeartbeats 4000000 in
set_option maxRecDepth 100000 in
theorem c_Mo_rank (v1 : Int32) (v2 : Int32) (v3 : Bool) (σ : nS) (hok : o_Mo_rank v1 v2 v3 σ) : CtV l D cI cZ (wM cI cZ a) exM y_Mo_rank b_Mo_rank 4 { frames := 1, cells := 0, slots := 0, locals := 21 } [.ref (a 0), .int v1, .int v2, .int (bI v3)] σ (s_Mo_rank v1 v2 v3 σ) := by
  generalize hF : s_Mo_rank v1 v2 v3 σ = F
  refine metV exM_ok (by decide) (Nat.le_of_ble_eq_true rfl) (fun p e s m args below meth c A Q ls X S hl ret => ?_)
  have hq := hF.symm
  obtain ⟨hx, hb, hml, hown, hts, hK, hA, hE, hlk, hEo⟩ := id X
  have hl : lv_has ls 4 [(0, .ref (a 0)), (1, .int v1), (2, .int v2), (3, .int (bI v3))] := hl
  have B_Mo_rank_67 : ∀ (k1 : Int32) (k2 : Bool) (σ : nS) (H : Heap) (locs : List Loc) (ls : Array Slot), (o_Mo_rank_67 k1 k2 σ) → lv_has ls 4 [] → St D (wM cI cZ a) A s σ H locs → F = s_Mo_rank_67 k1 k2 σ → W p l e ({ frames := 1, cells := 0, slots := 0, locals := 21 } : Room) s m args below meth c H locs 0 0 Q (F0 m 67 ls [.int (bI k2), .int k1, .ref (a 4)]) := by
    intro k1 k2 σ H locs ls hok hl S hq
    obtain ⟨g1, hok⟩ := hok
    refine st_M_4 (k := (k1).toNatClampNeg) (b := k2) hx hb hK S g1 rfl d_Mo_rank_67 (fun H locs S => ?_)
    exact ret _ _ _ _ _ S hq d_Mo_rank_68
  have B_Mo_rank_62 : ∀ (k1 : Int32) (σ : nS) (H : Heap) (locs : List Loc) (ls : Array Slot), (o_Mo_rank_62 k1 σ) → lv_has ls 4 [] → St D (wM cI cZ a) A s σ H locs → F = s_Mo_rank_62 k1 σ → W p l e ({ frames := 1, cells := 0, slots := 0, locals := 21 } : Room) s m args below meth c H locs 0 0 Q (F0 m 62 ls [.int k1, .ref (a 4)]) := by
    intro k1 σ H locs ls hok hl S hq
    refine lv_iconst (v := 1) hx hb d_Mo_rank_62 (by decide) ?_
    refine lv_goto (tgt := 67) hx hb d_Mo_rank_63 rfl ?_
    exact B_Mo_rank_67 _ true _ _ _ _ hok (lv_sub hl [] rfl) S hq
  have B_Mo_rank_66 : ∀ (k1 : Int32) (σ : nS) (H : Heap) (locs : List Loc) (ls : Array Slot), (o_Mo_rank_66 k1 σ) → lv_has ls 4 [] → St D (wM cI cZ a) A s σ H locs → F = s_Mo_rank_66 k1 σ → W p l e ({ frames := 1, cells := 0, slots := 0, locals := 21 } : Room) s m args below meth c H locs 0 0 Q (F0 m 66 ls [.int k1, .ref (a 4)]) := by
    intro k1 σ H locs ls hok hl S hq
    refine lv_iconst (v := 0) hx hb d_Mo_rank_66 (by decide) ?_
    exact B_Mo_rank_67 _ false _ _ _ _ hok (lv_sub hl [] rfl) S hq
  have B_Mo_rank_27 : ∀ (v1 : Int32) (v2 : Int32) (v3 : Bool) (k1 : Bool) (σ : nS) (H : Heap) (locs : List Loc) (ls : Array Slot), (o_Mo_rank_27 v1 v2 v3 k1 σ) → lv_has ls 4 [(0, .ref (a 0)), (1, .int v1), (2, .int v2), (3, .int (bI v3))] → St D (wM cI cZ a) A s σ H locs → F = s_Mo_rank_27 v1 v2 v3 k1 σ → W p l e ({ frames := 1, cells := 0, slots := 0, locals := 21 } : Room) s m args below meth c H locs 0 0 Q (F0 m 27 ls [.int (bI k1), .ref (a 0)]) := by
    intro v1 v2 v3 k1 σ H locs ls hok hl S hq
    refine callVZ X S hl (c_Mo_fails k1 _) v_Mo_218 0 6 ⟨rfl, rfl⟩ (rk_dec (by decide)) rfl rfl (Nat.le_of_ble_eq_true rfl) d_Mo_rank_27 (fun r1 σ1 H locs e1 S => ?_)
    have hq := hq.trans (ap2_eq e1)
    have hok := ok_ap2 e1 hok
    refine r_ifeqZ (tgt := 34) hx hb d_Mo_rank_30 rfl (fun h30 => ?_) (fun h30 => ?_)
    · have hq := hq.trans (if_neg h30)
      have hok := ok_neg h30 hok
      refine lv_aload_n hx hb d_Mo_rank_34 rfl (lv_at hl 0 rfl) ?_
      refine g_Mo_16 hx hb hts hown hK S.1 d_Mo_rank_35 ?_
      refine lv_iload_n hx hb d_Mo_rank_38 rfl (lv_at hl 1 rfl) ?_
      refine lv_iload_n hx hb d_Mo_rank_39 rfl (lv_at hl 2 rfl) ?_
      obtain ⟨g2, hok⟩ := hok
      refine st_M_3 (k := (v1).toNatClampNeg) hx hb hK S g2 rfl d_Mo_rank_40 (fun H locs S => ?_)
      refine lv_aload_n hx hb d_Mo_rank_41 rfl (lv_at hl 0 rfl) ?_
      refine g_Mo_19 hx hb hts hown hK S.1 d_Mo_rank_42 ?_
      refine lv_iload_n hx hb d_Mo_rank_45 rfl (lv_at hl 1 rfl) ?_
      refine lv_iload_n hx hb d_Mo_rank_46 rfl (lv_at hl 3 rfl) ?_
      refine r_ifneZ (tgt := 62) hx hb d_Mo_rank_47 rfl (fun h47 => ?_) (fun h47 => ?_)
      · have hq := hq.trans (if_pos h47)
        have hok := ok_pos h47 hok
        exact B_Mo_rank_62 _ _ _ _ _ hok (lv_sub hl [] rfl) S hq
      · have hq := hq.trans (if_neg h47)
        have hok := ok_neg h47 hok
        refine lv_iload_n hx hb d_Mo_rank_50 rfl (lv_at hl 1 rfl) ?_
        refine lv_bipush (v := 7) hx hb d_Mo_rank_51 (by decide) ?_
        refine lv_icmp_lt (tgt := 66) hx hb d_Mo_rank_53 rfl (fun h53 => ?_) (fun h53 => ?_)
        · have hq := hq.trans (if_pos h53)
          have hok := ok_pos h53 hok
          exact B_Mo_rank_66 _ _ _ _ _ hok (lv_sub hl [] rfl) S hq
        · have hq := hq.trans (if_neg h53)
          have hok := ok_neg h53 hok
          refine lv_iload_n hx hb d_Mo_rank_56 rfl (lv_at hl 1 rfl) ?_
          refine lv_bipush (v := 9) hx hb d_Mo_rank_57 (by decide) ?_
          refine lv_icmp_gt (tgt := 66) hx hb d_Mo_rank_59 rfl (fun h59 => ?_) (fun h59 => ?_)
          · have hq := hq.trans (if_pos h59)
            have hok := ok_pos h59 hok
            exact B_Mo_rank_66 _ _ _ _ _ hok (lv_sub hl [] rfl) S hq
          · have hq := hq.trans (if_neg h59)
            have hok := ok_neg h59 hok
            exact B_Mo_rank_62 _ _ _ _ _ hok (lv_sub hl [] rfl) S hq
    · have hq := hq.trans (if_pos h30)
      have hok := ok_pos h30 hok
      exact ret _ _ _ _ _ S hq d_Mo_rank_33
  have B_Mo_rank_22 : ∀ (v1 : Int32) (v2 : Int32) (v3 : Bool) (σ : nS) (H : Heap) (locs : List Loc) (ls : Array Slot), (o_Mo_rank_22 v1 v2 v3 σ) → lv_has ls 4 [(0, .ref (a 0)), (1, .int v1), (2, .int v2), (3, .int (bI v3))] → St D (wM cI cZ a) A s σ H locs → F = s_Mo_rank_22 v1 v2 v3 σ → W p l e ({ frames := 1, cells := 0, slots := 0, locals := 21 } : Room) s m args below meth c H locs 0 0 Q (F0 m 22 ls [.ref (a 0)]) := by
    intro v1 v2 v3 σ H locs ls hok hl S hq
    refine lv_iconst (v := 1) hx hb d_Mo_rank_22 (by decide) ?_
    refine lv_goto (tgt := 27) hx hb d_Mo_rank_23 rfl ?_
    exact B_Mo_rank_27 _ _ _ true _ _ _ _ hok (lv_sub hl [0, 1, 2, 3] rfl) S hq
  refine lv_aload_n hx hb d_Mo_rank_0 rfl (lv_at hl 0 rfl) ?_
  refine lv_iload_n hx hb d_Mo_rank_1 rfl (lv_at hl 1 rfl) ?_
  refine lv_iconst (v := 4) hx hb d_Mo_rank_2 (by decide) ?_
  refine lv_icmp_lt (tgt := 22) hx hb d_Mo_rank_3 rfl (fun h3 => ?_) (fun h3 => ?_)
  · have hq := hq.trans (if_pos h3)
    have hok := ok_pos h3 hok
    exact B_Mo_rank_22 _ _ _ _ _ _ _ hok (lv_sub hl [0, 1, 2, 3] rfl) S hq
  · have hq := hq.trans (if_neg h3)
    have hok := ok_neg h3 hok
    refine lv_iload_n hx hb d_Mo_rank_6 rfl (lv_at hl 1 rfl) ?_
    refine lv_bipush (v := 15) hx hb d_Mo_rank_7 (by decide) ?_
    refine lv_icmp_gt (tgt := 22) hx hb d_Mo_rank_9 rfl (fun h9 => ?_) (fun h9 => ?_)
    · have hq := hq.trans (if_pos h9)
      have hok := ok_pos h9 hok
      exact B_Mo_rank_22 _ _ _ _ _ _ _ hok (lv_sub hl [0, 1, 2, 3] rfl) S hq
    · have hq := hq.trans (if_neg h9)
      have hok := ok_neg h9 hok
      refine lv_iload_n hx hb d_Mo_rank_12 rfl (lv_at hl 2 rfl) ?_
      refine lv_if_lt (tgt := 22) hx hb d_Mo_rank_13 rfl (fun h13 => ?_) (fun h13 => ?_)
      · have hq := hq.trans (if_pos h13)
        have hok := ok_pos h13 hok
        exact B_Mo_rank_22 _ _ _ _ _ _ _ hok (lv_sub hl [0, 1, 2, 3] rfl) S hq
      · have hq := hq.trans (if_neg h13)
        have hok := ok_neg h13 hok
        refine lv_iload_n hx hb d_Mo_rank_16 rfl (lv_at hl 2 rfl) ?_
        refine lv_bipush (v := 7) hx hb d_Mo_rank_17 (by decide) ?_
        refine lv_icmp_le (tgt := 26) hx hb d_Mo_rank_19 rfl (fun h19 => ?_) (fun h19 => ?_)
        · have hq := hq.trans (if_pos h19)
          have hok := ok_pos h19 hok
          refine lv_iconst (v := 0) hx hb d_Mo_rank_26 (by decide) ?_
          exact B_Mo_rank_27 _ _ _ false _ _ _ _ hok (lv_sub hl [0, 1, 2, 3] rfl) S hq
        · have hq := hq.trans (if_neg h19)
          have hok := ok_neg h19 hok
          exact B_Mo_rank_22 _ _ _ _ _ _ _ hok (lv_sub hl [0, 1, 2, 3] rfl) S hq
set_option maxHeartbeats 4000000 in
set_option maxRecDepth 100000 in
theorem c_Mo_pend (v1 : Int32) (v2 : Bool) (σ : nS) (hok : o_Mo_pend v1 v2 σ) : CtV l D cI cZ (wM cI cZ a) exM y_Mo_pend b_Mo_pend 3 { frames := 1, cells := 0, slots := 0, locals := 21 } [.ref (a 0), .int v1, .int (bI v2)] σ (s_Mo_pend v1 v2 σ) := by
  generalize hF : s_Mo_pend v1 v2 σ = F
  refine metV exM_ok (by decide) (Nat.le_of_ble_eq_true rfl) (fun p e s m args below meth c A Q ls X S hl ret => ?_)
  have hq := hF.symm
  obtain ⟨hx, hb, hml, hown, hts, hK, hA, hE, hlk, hEo⟩ := id X
  have hl : lv_has ls 3 [(0, .ref (a 0)), (1, .int v1), (2, .int (bI v2))] := hl
  have B_Mo_pend_17 : ∀ (v1 : Int32) (v2 : Bool) (k1 : Bool) (σ : nS) (H : Heap) (locs : List Loc) (ls : Array Slot), (o_Mo_pend_17 v1 v2 k1 σ) → lv_has ls 3 [(0, .ref (a 0)), (1, .int v1), (2, .int (bI v2))] → St D (wM cI cZ a) A s σ H locs → F = s_Mo_pend_17 v1 v2 k1 σ → W p l e ({ frames := 1, cells := 0, slots := 0, locals := 21 } : Room) s m args below meth c H locs 0 0 Q (F0 m 17 ls [.int (bI k1), .ref (a 0)]) := by
    intro v1 v2 k1 σ H locs ls hok hl S hq
    refine callVZ X S hl (c_Mo_fails k1 _) v_Mo_218 0 6 ⟨rfl, rfl⟩ (rk_dec (by decide)) rfl rfl (Nat.le_of_ble_eq_true rfl) d_Mo_pend_17 (fun r1 σ1 H locs e1 S => ?_)
    have hq := hq.trans (ap2_eq e1)
    have hok := ok_ap2 e1 hok
    refine r_ifneZ (tgt := 30) hx hb d_Mo_pend_20 rfl (fun h20 => ?_) (fun h20 => ?_)
    · have hq := hq.trans (if_pos h20)
      have hok := ok_pos h20 hok
      exact ret _ _ _ _ _ S hq d_Mo_pend_30
    · have hq := hq.trans (if_neg h20)
      have hok := ok_neg h20 hok
      refine lv_aload_n hx hb d_Mo_pend_23 rfl (lv_at hl 0 rfl) ?_
      refine g_Mo_23 hx hb hts hown hK S.1 d_Mo_pend_24 ?_
      refine lv_iload_n hx hb d_Mo_pend_27 rfl (lv_at hl 1 rfl) ?_
      refine lv_iload_n hx hb d_Mo_pend_28 rfl (lv_at hl 2 rfl) ?_
      obtain ⟨g1, hok⟩ := hok
      refine st_M_5 (k := (v1).toNatClampNeg) (b := v2) hx hb hK S g1 rfl d_Mo_pend_29 (fun H locs S => ?_)
      exact ret _ _ _ _ _ S hq d_Mo_pend_30
  have B_Mo_pend_12 : ∀ (v1 : Int32) (v2 : Bool) (σ : nS) (H : Heap) (locs : List Loc) (ls : Array Slot), (o_Mo_pend_12 v1 v2 σ) → lv_has ls 3 [(0, .ref (a 0)), (1, .int v1), (2, .int (bI v2))] → St D (wM cI cZ a) A s σ H locs → F = s_Mo_pend_12 v1 v2 σ → W p l e ({ frames := 1, cells := 0, slots := 0, locals := 21 } : Room) s m args below meth c H locs 0 0 Q (F0 m 12 ls [.ref (a 0)]) := by
    intro v1 v2 σ H locs ls hok hl S hq
    refine lv_iconst (v := 1) hx hb d_Mo_pend_12 (by decide) ?_
    refine lv_goto (tgt := 17) hx hb d_Mo_pend_13 rfl ?_
    exact B_Mo_pend_17 _ _ true _ _ _ _ hok (lv_sub hl [0, 1, 2] rfl) S hq
  refine lv_aload_n hx hb d_Mo_pend_0 rfl (lv_at hl 0 rfl) ?_
  refine lv_iload_n hx hb d_Mo_pend_1 rfl (lv_at hl 1 rfl) ?_
  refine lv_iconst (v := 2) hx hb d_Mo_pend_2 (by decide) ?_
  refine lv_icmp_lt (tgt := 12) hx hb d_Mo_pend_3 rfl (fun h3 => ?_) (fun h3 => ?_)
  · have hq := hq.trans (if_pos h3)
    have hok := ok_pos h3 hok
    exact B_Mo_pend_12 _ _ _ _ _ _ hok (lv_sub hl [0, 1, 2] rfl) S hq
  · have hq := hq.trans (if_neg h3)
    have hok := ok_neg h3 hok
    refine lv_iload_n hx hb d_Mo_pend_6 rfl (lv_at hl 1 rfl) ?_
    refine lv_bipush (v := 15) hx hb d_Mo_pend_7 (by decide) ?_
    refine lv_icmp_le (tgt := 16) hx hb d_Mo_pend_9 rfl (fun h9 => ?_) (fun h9 => ?_)
    · have hq := hq.trans (if_pos h9)
      have hok := ok_pos h9 hok
      refine lv_iconst (v := 0) hx hb d_Mo_pend_16 (by decide) ?_
      exact B_Mo_pend_17 _ _ false _ _ _ _ hok (lv_sub hl [0, 1, 2] rfl) S hq
    · have hq := hq.trans (if_neg h9)
      have hok := ok_neg h9 hok
      exact B_Mo_pend_12 _ _ _ _ _ _ hok (lv_sub hl [0, 1, 2] rfl) S hq
set_option maxHeartbeats 4000000 in
set_option maxRecDepth 100000 in
theorem c_Mo_area (v1 : Int32) (v2 : Int32) (v3 : Int32) (v4 : Int32) (v5 : Bool) (σ : nS) (hok : o_Mo_area v1 v2 v3 v4 v5 σ) : CtV l D cI cZ (wM cI cZ a) exM y_Mo_area b_Mo_area 7 { frames := 1, cells := 0, slots := 0, locals := 21 } [.ref (a 0), .int v1, .int v2, .int v3, .int v4, .int (bI v5)] σ (s_Mo_area v1 v2 v3 v4 v5 σ) := by
  generalize hF : s_Mo_area v1 v2 v3 v4 v5 σ = F
  refine metV exM_ok (by decide) (Nat.le_of_ble_eq_true rfl) (fun p e s m args below meth c A Q ls X S hl ret => ?_)
  have hq := hF.symm
  obtain ⟨hx, hb, hml, hown, hts, hK, hA, hE, hlk, hEo⟩ := id X
  have hl : lv_has ls 7 [(0, .ref (a 0)), (1, .int v1), (2, .int v2), (3, .int v3), (4, .int v4), (5, .int (bI v5))] := hl
  have B_Mo_area_62 : ∀ (v1 : Int32) (v2 : Int32) (v3 : Int32) (v4 : Int32) (v5 : Bool) (k1 : Bool) (σ : nS) (H : Heap) (locs : List Loc) (ls : Array Slot), (o_Mo_area_62 v1 v2 v3 v4 v5 k1 σ) → lv_has ls 7 [(0, .ref (a 0)), (1, .int v1), (2, .int v2), (3, .int v3), (4, .int v4), (5, .int (bI v5))] → St D (wM cI cZ a) A s σ H locs → F = s_Mo_area_62 v1 v2 v3 v4 v5 k1 σ → W p l e ({ frames := 1, cells := 0, slots := 0, locals := 21 } : Room) s m args below meth c H locs 0 0 Q (F0 m 62 ls [.int (bI k1), .ref (a 0)]) := by
    intro v1 v2 v3 v4 v5 k1 σ H locs ls hok hl S hq
    refine callVZ X S hl (c_Mo_fails k1 _) v_Mo_218 0 6 ⟨rfl, rfl⟩ (rk_dec (by decide)) rfl rfl (Nat.le_of_ble_eq_true rfl) d_Mo_area_62 (fun r1 σ1 H locs e1 S => ?_)
    have hq := hq.trans (ap2_eq e1)
    have hok := ok_ap2 e1 hok
    refine r_ifeqZ (tgt := 69) hx hb d_Mo_area_65 rfl (fun h65 => ?_) (fun h65 => ?_)
    · have hq := hq.trans (if_neg h65)
      have hok := ok_neg h65 hok
      refine lv_aload_n hx hb d_Mo_area_69 rfl (lv_at hl 0 rfl) ?_
      refine g_Mo_29 hx hb hts hown hK S.1 d_Mo_area_70 ?_
      refine lv_iload_n hx hb d_Mo_area_73 rfl (lv_at hl 1 rfl) ?_
      refine lv_iload_n hx hb d_Mo_area_74 rfl (lv_at hl 2 rfl) ?_
      obtain ⟨g1, hok⟩ := hok
      refine st_M_7 (k := (v1).toNatClampNeg) hx hb hK S g1 rfl d_Mo_area_75 (fun H locs S => ?_)
      refine lv_aload_n hx hb d_Mo_area_76 rfl (lv_at hl 0 rfl) ?_
      refine g_Mo_32 hx hb hts hown hK S.1 d_Mo_area_77 ?_
      refine lv_iload_n hx hb d_Mo_area_80 rfl (lv_at hl 1 rfl) ?_
      refine lv_iload_n hx hb d_Mo_area_81 rfl (lv_at hl 2 rfl) ?_
      refine lv_iload_n hx hb d_Mo_area_82 rfl (lv_at hl 3 rfl) ?_
      refine lv_iadd hx hb d_Mo_area_83 ?_
      obtain ⟨g2, hok⟩ := hok
      refine st_M_8 (k := (v1).toNatClampNeg) hx hb hK S g2 rfl d_Mo_area_84 (fun H locs S => ?_)
      refine lv_aload_n hx hb d_Mo_area_85 rfl (lv_at hl 0 rfl) ?_
      refine g_Mo_35 hx hb hts hown hK S.1 d_Mo_area_86 ?_
      refine lv_iload_n hx hb d_Mo_area_89 rfl (lv_at hl 1 rfl) ?_
      refine lv_iload hx hb d_Mo_area_90 (lv_at hl 4 rfl) ?_
      obtain ⟨g3, hok⟩ := hok
      refine st_M_9 (k := (v1).toNatClampNeg) hx hb hK S g3 rfl d_Mo_area_92 (fun H locs S => ?_)
      refine lv_aload_n hx hb d_Mo_area_93 rfl (lv_at hl 0 rfl) ?_
      refine g_Mo_38 hx hb hts hown hK S.1 d_Mo_area_94 ?_
      refine lv_iload_n hx hb d_Mo_area_97 rfl (lv_at hl 1 rfl) ?_
      refine lv_iload hx hb d_Mo_area_98 (lv_at hl 5 rfl) ?_
      obtain ⟨g4, hok⟩ := hok
      refine st_M_10 (k := (v1).toNatClampNeg) (b := v5) hx hb hK S g4 rfl d_Mo_area_100 (fun H locs S => ?_)
      exact ret _ _ _ _ _ S hq d_Mo_area_101
    · have hq := hq.trans (if_pos h65)
      have hok := ok_pos h65 hok
      exact ret _ _ _ _ _ S hq d_Mo_area_68
  have B_Mo_area_49 : ∀ (v1 : Int32) (v2 : Int32) (v3 : Int32) (v4 : Int32) (v5 : Bool) (k0 : Bool) (σ : nS) (H : Heap) (locs : List Loc) (ls : Array Slot), (o_Mo_area_49 v1 v2 v3 v4 v5 k0 σ) → lv_has ls 7 [(0, .ref (a 0)), (1, .int v1), (2, .int v2), (3, .int v3), (4, .int v4), (5, .int (bI v5))] → St D (wM cI cZ a) A s σ H locs → F = s_Mo_area_49 v1 v2 v3 v4 v5 k0 σ → W p l e ({ frames := 1, cells := 0, slots := 0, locals := 21 } : Room) s m args below meth c H locs 0 0 Q (F0 m 49 ls [.int (bI k0)]) := by
    intro v1 v2 v3 v4 v5 k0 σ H locs ls hok hl S hq
    refine lv_istore hx hb d_Mo_area_49 hl (by decide) rfl (fun ls hl => ?_)
    refine lv_aload_n hx hb d_Mo_area_51 rfl (lv_at hl 1 rfl) ?_
    refine lv_iload hx hb d_Mo_area_52 (lv_at hl 0 rfl) ?_
    refine r_ifneZ (tgt := 61) hx hb d_Mo_area_54 rfl (fun h54 => ?_) (fun h54 => ?_)
    · have hq := hq.trans (if_pos h54)
      have hok := ok_pos h54 hok
      refine lv_iconst (v := 0) hx hb d_Mo_area_61 (by decide) ?_
      exact B_Mo_area_62 _ _ _ _ _ false _ _ _ _ hok (lv_sub hl [1, 2, 3, 4, 5, 6] rfl) S hq
    · have hq := hq.trans (if_neg h54)
      have hok := ok_neg h54 hok
      refine lv_iconst (v := 1) hx hb d_Mo_area_57 (by decide) ?_
      refine lv_goto (tgt := 62) hx hb d_Mo_area_58 rfl ?_
      exact B_Mo_area_62 _ _ _ _ _ true _ _ _ _ hok (lv_sub hl [1, 2, 3, 4, 5, 6] rfl) S hq
  have B_Mo_area_48 : ∀ (v1 : Int32) (v2 : Int32) (v3 : Int32) (v4 : Int32) (v5 : Bool) (σ : nS) (H : Heap) (locs : List Loc) (ls : Array Slot), (o_Mo_area_48 v1 v2 v3 v4 v5 σ) → lv_has ls 7 [(0, .ref (a 0)), (1, .int v1), (2, .int v2), (3, .int v3), (4, .int v4), (5, .int (bI v5))] → St D (wM cI cZ a) A s σ H locs → F = s_Mo_area_48 v1 v2 v3 v4 v5 σ → W p l e ({ frames := 1, cells := 0, slots := 0, locals := 21 } : Room) s m args below meth c H locs 0 0 Q (F0 m 48 ls []) := by
    intro v1 v2 v3 v4 v5 σ H locs ls hok hl S hq
    refine lv_iconst (v := 0) hx hb d_Mo_area_48 (by decide) ?_
    exact B_Mo_area_49 _ _ _ _ _ false _ _ _ _ hok (lv_sub hl [0, 1, 2, 3, 4, 5] rfl) S hq
  refine lv_iload_n hx hb d_Mo_area_0 rfl (lv_at hl 1 rfl) ?_
  refine lv_if_lt (tgt := 48) hx hb d_Mo_area_1 rfl (fun h1 => ?_) (fun h1 => ?_)
  · have hq := hq.trans (if_pos h1)
    have hok := ok_pos h1 hok
    exact B_Mo_area_48 _ _ _ _ _ _ _ _ _ hok (lv_sub hl [0, 1, 2, 3, 4, 5] rfl) S hq
  · have hq := hq.trans (if_neg h1)
    have hok := ok_neg h1 hok
    refine lv_iload_n hx hb d_Mo_area_4 rfl (lv_at hl 1 rfl) ?_
    refine lv_iconst (v := 4) hx hb d_Mo_area_5 (by decide) ?_
    refine lv_icmp_ge (tgt := 48) hx hb d_Mo_area_6 rfl (fun h6 => ?_) (fun h6 => ?_)
    · have hq := hq.trans (if_pos h6)
      have hok := ok_pos h6 hok
      exact B_Mo_area_48 _ _ _ _ _ _ _ _ _ hok (lv_sub hl [0, 1, 2, 3, 4, 5] rfl) S hq
    · have hq := hq.trans (if_neg h6)
      have hok := ok_neg h6 hok
      refine lv_iload hx hb d_Mo_area_9 (lv_at hl 4 rfl) ?_
      refine lv_if_lt (tgt := 48) hx hb d_Mo_area_11 rfl (fun h11 => ?_) (fun h11 => ?_)
      · have hq := hq.trans (if_pos h11)
        have hok := ok_pos h11 hok
        exact B_Mo_area_48 _ _ _ _ _ _ _ _ _ hok (lv_sub hl [0, 1, 2, 3, 4, 5] rfl) S hq
      · have hq := hq.trans (if_neg h11)
        have hok := ok_neg h11 hok
        refine lv_iload hx hb d_Mo_area_14 (lv_at hl 4 rfl) ?_
        refine lv_iconst (v := 3) hx hb d_Mo_area_16 (by decide) ?_
        refine lv_icmp_ge (tgt := 48) hx hb d_Mo_area_17 rfl (fun h17 => ?_) (fun h17 => ?_)
        · have hq := hq.trans (if_pos h17)
          have hok := ok_pos h17 hok
          exact B_Mo_area_48 _ _ _ _ _ _ _ _ _ hok (lv_sub hl [0, 1, 2, 3, 4, 5] rfl) S hq
        · have hq := hq.trans (if_neg h17)
          have hok := ok_neg h17 hok
          refine lv_iload_n hx hb d_Mo_area_20 rfl (lv_at hl 2 rfl) ?_
          refine lv_if_lt (tgt := 48) hx hb d_Mo_area_21 rfl (fun h21 => ?_) (fun h21 => ?_)
          · have hq := hq.trans (if_pos h21)
            have hok := ok_pos h21 hok
            exact B_Mo_area_48 _ _ _ _ _ _ _ _ _ hok (lv_sub hl [0, 1, 2, 3, 4, 5] rfl) S hq
          · have hq := hq.trans (if_neg h21)
            have hok := ok_neg h21 hok
            refine lv_iload_n hx hb d_Mo_area_24 rfl (lv_at hl 2 rfl) ?_
            refine lv_sipush (v := 1024) hx hb d_Mo_area_25 (by decide) ?_
            refine lv_icmp_gt (tgt := 48) hx hb d_Mo_area_28 rfl (fun h28 => ?_) (fun h28 => ?_)
            · have hq := hq.trans (if_pos h28)
              have hok := ok_pos h28 hok
              exact B_Mo_area_48 _ _ _ _ _ _ _ _ _ hok (lv_sub hl [0, 1, 2, 3, 4, 5] rfl) S hq
            · have hq := hq.trans (if_neg h28)
              have hok := ok_neg h28 hok
              refine lv_iload_n hx hb d_Mo_area_31 rfl (lv_at hl 3 rfl) ?_
              refine lv_if_lt (tgt := 48) hx hb d_Mo_area_32 rfl (fun h32 => ?_) (fun h32 => ?_)
              · have hq := hq.trans (if_pos h32)
                have hok := ok_pos h32 hok
                exact B_Mo_area_48 _ _ _ _ _ _ _ _ _ hok (lv_sub hl [0, 1, 2, 3, 4, 5] rfl) S hq
              · have hq := hq.trans (if_neg h32)
                have hok := ok_neg h32 hok
                refine lv_iload_n hx hb d_Mo_area_35 rfl (lv_at hl 3 rfl) ?_
                refine lv_sipush (v := 1024) hx hb d_Mo_area_36 (by decide) ?_
                refine lv_iload_n hx hb d_Mo_area_39 rfl (lv_at hl 2 rfl) ?_
                refine lv_isub hx hb d_Mo_area_40 ?_
                refine lv_icmp_gt (tgt := 48) hx hb d_Mo_area_41 rfl (fun h41 => ?_) (fun h41 => ?_)
                · have hq := hq.trans (if_pos h41)
                  have hok := ok_pos h41 hok
                  exact B_Mo_area_48 _ _ _ _ _ _ _ _ _ hok (lv_sub hl [0, 1, 2, 3, 4, 5] rfl) S hq
                · have hq := hq.trans (if_neg h41)
                  have hok := ok_neg h41 hok
                  refine lv_iconst (v := 1) hx hb d_Mo_area_44 (by decide) ?_
                  refine lv_goto (tgt := 49) hx hb d_Mo_area_45 rfl ?_
                  exact B_Mo_area_49 _ _ _ _ _ true _ _ _ _ hok (lv_sub hl [0, 1, 2, 3, 4, 5] rfl) S hq
set_option maxHeartbeats 4000000 in
set_option maxRecDepth 100000 in
theorem c_Mo_run (v1 : Int32) (σ : nS) (hok : o_Mo_run v1 σ) : CtI l D cI cZ (wM cI cZ a) exM y_Mo_run b_Mo_run 3 { frames := 8, cells := 0, slots := 0, locals := 183 } [.ref (a 0), .int v1] σ (s_Mo_run v1 σ) := by
  generalize hF : s_Mo_run v1 σ = F
  refine metI exM_ok (by decide) (Nat.le_of_ble_eq_true rfl) (fun p e s m args below meth c A Q ls X S hl ret => ?_)
  have hq := hF.symm
  obtain ⟨hx, hb, hml, hown, hts, hK, hA, hE, hlk, hEo⟩ := id X
  have hl : lv_has ls 3 [(0, .ref (a 0)), (1, .int v1)] := hl
  have B_Mo_run_49_0 : ∀ (σ : nS) (H : Heap) (locs : List Loc) (ls : Array Slot), (o_Mo_run_49_0 σ) → lv_has ls 3 [(2, .int (0 : Int32))] → St D (wM cI cZ a) A s σ H locs → F = s_Mo_run_49_0 σ → W p l e ({ frames := 8, cells := 0, slots := 0, locals := 183 } : Room) s m args below meth c H locs 0 0 Q (F0 m 49 ls []) := by
    intro σ H locs ls hok hl S hq
    refine lv_iload_n hx hb d_Mo_run_49 rfl (lv_at hl 0 rfl) ?_
    exact ret _ _ _ _ _ _ S hq d_Mo_run_50
  have B_Mo_run_49_1 : ∀ (σ : nS) (H : Heap) (locs : List Loc) (ls : Array Slot), (o_Mo_run_49_1 σ) → lv_has ls 3 [(2, .int (1 : Int32))] → St D (wM cI cZ a) A s σ H locs → F = s_Mo_run_49_1 σ → W p l e ({ frames := 8, cells := 0, slots := 0, locals := 183 } : Room) s m args below meth c H locs 0 0 Q (F0 m 49 ls []) := by
    intro σ H locs ls hok hl S hq
    refine lv_iload_n hx hb d_Mo_run_49 rfl (lv_at hl 0 rfl) ?_
    exact ret _ _ _ _ _ _ S hq d_Mo_run_50
  have B_Mo_run_49_2 : ∀ (σ : nS) (H : Heap) (locs : List Loc) (ls : Array Slot), (o_Mo_run_49_2 σ) → lv_has ls 3 [(2, .int (2 : Int32))] → St D (wM cI cZ a) A s σ H locs → F = s_Mo_run_49_2 σ → W p l e ({ frames := 8, cells := 0, slots := 0, locals := 183 } : Room) s m args below meth c H locs 0 0 Q (F0 m 49 ls []) := by
    intro σ H locs ls hok hl S hq
    refine lv_iload_n hx hb d_Mo_run_49 rfl (lv_at hl 0 rfl) ?_
    exact ret _ _ _ _ _ _ S hq d_Mo_run_50
  have B_Mo_run_49_3 : ∀ (σ : nS) (H : Heap) (locs : List Loc) (ls : Array Slot), (o_Mo_run_49_3 σ) → lv_has ls 3 [(2, .int (3 : Int32))] → St D (wM cI cZ a) A s σ H locs → F = s_Mo_run_49_3 σ → W p l e ({ frames := 8, cells := 0, slots := 0, locals := 183 } : Room) s m args below meth c H locs 0 0 Q (F0 m 49 ls []) := by
    intro σ H locs ls hok hl S hq
    refine lv_iload_n hx hb d_Mo_run_49 rfl (lv_at hl 0 rfl) ?_
    exact ret _ _ _ _ _ _ S hq d_Mo_run_50
  have B_Mo_run_49_4 : ∀ (σ : nS) (H : Heap) (locs : List Loc) (ls : Array Slot), (o_Mo_run_49_4 σ) → lv_has ls 3 [(2, .int (4 : Int32))] → St D (wM cI cZ a) A s σ H locs → F = s_Mo_run_49_4 σ → W p l e ({ frames := 8, cells := 0, slots := 0, locals := 183 } : Room) s m args below meth c H locs 0 0 Q (F0 m 49 ls []) := by
    intro σ H locs ls hok hl S hq
    refine lv_iload_n hx hb d_Mo_run_49 rfl (lv_at hl 0 rfl) ?_
    exact ret _ _ _ _ _ _ S hq d_Mo_run_50
  have B_Mo_run_49_5 : ∀ (σ : nS) (H : Heap) (locs : List Loc) (ls : Array Slot), (o_Mo_run_49_5 σ) → lv_has ls 3 [(2, .int (5 : Int32))] → St D (wM cI cZ a) A s σ H locs → F = s_Mo_run_49_5 σ → W p l e ({ frames := 8, cells := 0, slots := 0, locals := 183 } : Room) s m args below meth c H locs 0 0 Q (F0 m 49 ls []) := by
    intro σ H locs ls hok hl S hq
    refine lv_iload_n hx hb d_Mo_run_49 rfl (lv_at hl 0 rfl) ?_
    exact ret _ _ _ _ _ _ S hq d_Mo_run_50
  have B_Mo_run_49_6 : ∀ (σ : nS) (H : Heap) (locs : List Loc) (ls : Array Slot), (o_Mo_run_49_6 σ) → lv_has ls 3 [(2, .int (6 : Int32))] → St D (wM cI cZ a) A s σ H locs → F = s_Mo_run_49_6 σ → W p l e ({ frames := 8, cells := 0, slots := 0, locals := 183 } : Room) s m args below meth c H locs 0 0 Q (F0 m 49 ls []) := by
    intro σ H locs ls hok hl S hq
    refine lv_iload_n hx hb d_Mo_run_49 rfl (lv_at hl 0 rfl) ?_
    exact ret _ _ _ _ _ _ S hq d_Mo_run_50
  have B_Mo_run_49_7 : ∀ (σ : nS) (H : Heap) (locs : List Loc) (ls : Array Slot), (o_Mo_run_49_7 σ) → lv_has ls 3 [(2, .int (7 : Int32))] → St D (wM cI cZ a) A s σ H locs → F = s_Mo_run_49_7 σ → W p l e ({ frames := 8, cells := 0, slots := 0, locals := 183 } : Room) s m args below meth c H locs 0 0 Q (F0 m 49 ls []) := by
    intro σ H locs ls hok hl S hq
    refine lv_iload_n hx hb d_Mo_run_49 rfl (lv_at hl 0 rfl) ?_
    exact ret _ _ _ _ _ _ S hq d_Mo_run_50
  have B_Mo_run_49_8 : ∀ (σ : nS) (H : Heap) (locs : List Loc) (ls : Array Slot), (o_Mo_run_49_8 σ) → lv_has ls 3 [(2, .int (8 : Int32))] → St D (wM cI cZ a) A s σ H locs → F = s_Mo_run_49_8 σ → W p l e ({ frames := 8, cells := 0, slots := 0, locals := 183 } : Room) s m args below meth c H locs 0 0 Q (F0 m 49 ls []) := by
    intro σ H locs ls hok hl S hq
    refine lv_iload_n hx hb d_Mo_run_49 rfl (lv_at hl 0 rfl) ?_
    exact ret _ _ _ _ _ _ S hq d_Mo_run_50
  have B_Mo_run_49_9 : ∀ (σ : nS) (H : Heap) (locs : List Loc) (ls : Array Slot), (o_Mo_run_49_9 σ) → lv_has ls 3 [(2, .int (9 : Int32))] → St D (wM cI cZ a) A s σ H locs → F = s_Mo_run_49_9 σ → W p l e ({ frames := 8, cells := 0, slots := 0, locals := 183 } : Room) s m args below meth c H locs 0 0 Q (F0 m 49 ls []) := by
    intro σ H locs ls hok hl S hq
    refine lv_iload_n hx hb d_Mo_run_49 rfl (lv_at hl 0 rfl) ?_
    exact ret _ _ _ _ _ _ S hq d_Mo_run_50
  have B_Mo_run_49_10 : ∀ (σ : nS) (H : Heap) (locs : List Loc) (ls : Array Slot), (o_Mo_run_49_10 σ) → lv_has ls 3 [(2, .int (10 : Int32))] → St D (wM cI cZ a) A s σ H locs → F = s_Mo_run_49_10 σ → W p l e ({ frames := 8, cells := 0, slots := 0, locals := 183 } : Room) s m args below meth c H locs 0 0 Q (F0 m 49 ls []) := by
    intro σ H locs ls hok hl S hq
    refine lv_iload_n hx hb d_Mo_run_49 rfl (lv_at hl 0 rfl) ?_
    exact ret _ _ _ _ _ _ S hq d_Mo_run_50
  have B_Mo_run_49_11 : ∀ (σ : nS) (H : Heap) (locs : List Loc) (ls : Array Slot), (o_Mo_run_49_11 σ) → lv_has ls 3 [(2, .int (11 : Int32))] → St D (wM cI cZ a) A s σ H locs → F = s_Mo_run_49_11 σ → W p l e ({ frames := 8, cells := 0, slots := 0, locals := 183 } : Room) s m args below meth c H locs 0 0 Q (F0 m 49 ls []) := by
    intro σ H locs ls hok hl S hq
    refine lv_iload_n hx hb d_Mo_run_49 rfl (lv_at hl 0 rfl) ?_
    exact ret _ _ _ _ _ _ S hq d_Mo_run_50
  have B_Mo_run_49_12 : ∀ (σ : nS) (H : Heap) (locs : List Loc) (ls : Array Slot), (o_Mo_run_49_12 σ) → lv_has ls 3 [(2, .int (12 : Int32))] → St D (wM cI cZ a) A s σ H locs → F = s_Mo_run_49_12 σ → W p l e ({ frames := 8, cells := 0, slots := 0, locals := 183 } : Room) s m args below meth c H locs 0 0 Q (F0 m 49 ls []) := by
    intro σ H locs ls hok hl S hq
    refine lv_iload_n hx hb d_Mo_run_49 rfl (lv_at hl 0 rfl) ?_
    exact ret _ _ _ _ _ _ S hq d_Mo_run_50
  have B_Mo_run_49_13 : ∀ (σ : nS) (H : Heap) (locs : List Loc) (ls : Array Slot), (o_Mo_run_49_13 σ) → lv_has ls 3 [(2, .int (13 : Int32))] → St D (wM cI cZ a) A s σ H locs → F = s_Mo_run_49_13 σ → W p l e ({ frames := 8, cells := 0, slots := 0, locals := 183 } : Room) s m args below meth c H locs 0 0 Q (F0 m 49 ls []) := by
    intro σ H locs ls hok hl S hq
    refine lv_iload_n hx hb d_Mo_run_49 rfl (lv_at hl 0 rfl) ?_
    exact ret _ _ _ _ _ _ S hq d_Mo_run_50
  have B_Mo_run_49_14 : ∀ (σ : nS) (H : Heap) (locs : List Loc) (ls : Array Slot), (o_Mo_run_49_14 σ) → lv_has ls 3 [(2, .int (14 : Int32))] → St D (wM cI cZ a) A s σ H locs → F = s_Mo_run_49_14 σ → W p l e ({ frames := 8, cells := 0, slots := 0, locals := 183 } : Room) s m args below meth c H locs 0 0 Q (F0 m 49 ls []) := by
    intro σ H locs ls hok hl S hq
    refine lv_iload_n hx hb d_Mo_run_49 rfl (lv_at hl 0 rfl) ?_
    exact ret _ _ _ _ _ _ S hq d_Mo_run_50
  have B_Mo_run_49_15 : ∀ (σ : nS) (H : Heap) (locs : List Loc) (ls : Array Slot), (o_Mo_run_49_15 σ) → lv_has ls 3 [(2, .int (15 : Int32))] → St D (wM cI cZ a) A s σ H locs → F = s_Mo_run_49_15 σ → W p l e ({ frames := 8, cells := 0, slots := 0, locals := 183 } : Room) s m args below meth c H locs 0 0 Q (F0 m 49 ls []) := by
    intro σ H locs ls hok hl S hq
    refine lv_iload_n hx hb d_Mo_run_49 rfl (lv_at hl 0 rfl) ?_
    exact ret _ _ _ _ _ _ S hq d_Mo_run_50
  have B_Mo_run_49_16 : ∀ (σ : nS) (H : Heap) (locs : List Loc) (ls : Array Slot), (o_Mo_run_49_16 σ) → lv_has ls 3 [(2, .int (16 : Int32))] → St D (wM cI cZ a) A s σ H locs → F = s_Mo_run_49_16 σ → W p l e ({ frames := 8, cells := 0, slots := 0, locals := 183 } : Room) s m args below meth c H locs 0 0 Q (F0 m 49 ls []) := by
    intro σ H locs ls hok hl S hq
    refine lv_iload_n hx hb d_Mo_run_49 rfl (lv_at hl 0 rfl) ?_
    exact ret _ _ _ _ _ _ S hq d_Mo_run_50
  have B_Mo_run_49_17 : ∀ (σ : nS) (H : Heap) (locs : List Loc) (ls : Array Slot), (o_Mo_run_49_17 σ) → lv_has ls 3 [(2, .int (17 : Int32))] → St D (wM cI cZ a) A s σ H locs → F = s_Mo_run_49_17 σ → W p l e ({ frames := 8, cells := 0, slots := 0, locals := 183 } : Room) s m args below meth c H locs 0 0 Q (F0 m 49 ls []) := by
    intro σ H locs ls hok hl S hq
    refine lv_iload_n hx hb d_Mo_run_49 rfl (lv_at hl 0 rfl) ?_
    exact ret _ _ _ _ _ _ S hq d_Mo_run_50
  have B_Mo_run_49_18 : ∀ (σ : nS) (H : Heap) (locs : List Loc) (ls : Array Slot), (o_Mo_run_49_18 σ) → lv_has ls 3 [(2, .int (18 : Int32))] → St D (wM cI cZ a) A s σ H locs → F = s_Mo_run_49_18 σ → W p l e ({ frames := 8, cells := 0, slots := 0, locals := 183 } : Room) s m args below meth c H locs 0 0 Q (F0 m 49 ls []) := by
    intro σ H locs ls hok hl S hq
    refine lv_iload_n hx hb d_Mo_run_49 rfl (lv_at hl 0 rfl) ?_
    exact ret _ _ _ _ _ _ S hq d_Mo_run_50
  have B_Mo_run_49_19 : ∀ (σ : nS) (H : Heap) (locs : List Loc) (ls : Array Slot), (o_Mo_run_49_19 σ) → lv_has ls 3 [(2, .int (19 : Int32))] → St D (wM cI cZ a) A s σ H locs → F = s_Mo_run_49_19 σ → W p l e ({ frames := 8, cells := 0, slots := 0, locals := 183 } : Room) s m args below meth c H locs 0 0 Q (F0 m 49 ls []) := by
    intro σ H locs ls hok hl S hq
    refine lv_iload_n hx hb d_Mo_run_49 rfl (lv_at hl 0 rfl) ?_
    exact ret _ _ _ _ _ _ S hq d_Mo_run_50
  have B_Mo_run_49_20 : ∀ (σ : nS) (H : Heap) (locs : List Loc) (ls : Array Slot), (o_Mo_run_49_20 σ) → lv_has ls 3 [(2, .int (20 : Int32))] → St D (wM cI cZ a) A s σ H locs → F = s_Mo_run_49_20 σ → W p l e ({ frames := 8, cells := 0, slots := 0, locals := 183 } : Room) s m args below meth c H locs 0 0 Q (F0 m 49 ls []) := by
    intro σ H locs ls hok hl S hq
    refine lv_iload_n hx hb d_Mo_run_49 rfl (lv_at hl 0 rfl) ?_
    exact ret _ _ _ _ _ _ S hq d_Mo_run_50
  have B_Mo_run_49_21 : ∀ (σ : nS) (H : Heap) (locs : List Loc) (ls : Array Slot), (o_Mo_run_49_21 σ) → lv_has ls 3 [(2, .int (21 : Int32))] → St D (wM cI cZ a) A s σ H locs → F = s_Mo_run_49_21 σ → W p l e ({ frames := 8, cells := 0, slots := 0, locals := 183 } : Room) s m args below meth c H locs 0 0 Q (F0 m 49 ls []) := by
    intro σ H locs ls hok hl S hq
    refine lv_iload_n hx hb d_Mo_run_49 rfl (lv_at hl 0 rfl) ?_
    exact ret _ _ _ _ _ _ S hq d_Mo_run_50
  have B_Mo_run_49_22 : ∀ (σ : nS) (H : Heap) (locs : List Loc) (ls : Array Slot), (o_Mo_run_49_22 σ) → lv_has ls 3 [(2, .int (22 : Int32))] → St D (wM cI cZ a) A s σ H locs → F = s_Mo_run_49_22 σ → W p l e ({ frames := 8, cells := 0, slots := 0, locals := 183 } : Room) s m args below meth c H locs 0 0 Q (F0 m 49 ls []) := by
    intro σ H locs ls hok hl S hq
    refine lv_iload_n hx hb d_Mo_run_49 rfl (lv_at hl 0 rfl) ?_
    exact ret _ _ _ _ _ _ S hq d_Mo_run_50
  have B_Mo_run_49_23 : ∀ (σ : nS) (H : Heap) (locs : List Loc) (ls : Array Slot), (o_Mo_run_49_23 σ) → lv_has ls 3 [(2, .int (23 : Int32))] → St D (wM cI cZ a) A s σ H locs → F = s_Mo_run_49_23 σ → W p l e ({ frames := 8, cells := 0, slots := 0, locals := 183 } : Room) s m args below meth c H locs 0 0 Q (F0 m 49 ls []) := by
    intro σ H locs ls hok hl S hq
    refine lv_iload_n hx hb d_Mo_run_49 rfl (lv_at hl 0 rfl) ?_
    exact ret _ _ _ _ _ _ S hq d_Mo_run_50
  have B_Mo_run_49_24 : ∀ (σ : nS) (H : Heap) (locs : List Loc) (ls : Array Slot), (o_Mo_run_49_24 σ) → lv_has ls 3 [(2, .int (24 : Int32))] → St D (wM cI cZ a) A s σ H locs → F = s_Mo_run_49_24 σ → W p l e ({ frames := 8, cells := 0, slots := 0, locals := 183 } : Room) s m args below meth c H locs 0 0 Q (F0 m 49 ls []) := by
    intro σ H locs ls hok hl S hq
    refine lv_iload_n hx hb d_Mo_run_49 rfl (lv_at hl 0 rfl) ?_
    exact ret _ _ _ _ _ _ S hq d_Mo_run_50
  have B_Mo_run_49_25 : ∀ (σ : nS) (H : Heap) (locs : List Loc) (ls : Array Slot), (o_Mo_run_49_25 σ) → lv_has ls 3 [(2, .int (25 : Int32))] → St D (wM cI cZ a) A s σ H locs → F = s_Mo_run_49_25 σ → W p l e ({ frames := 8, cells := 0, slots := 0, locals := 183 } : Room) s m args below meth c H locs 0 0 Q (F0 m 49 ls []) := by
    intro σ H locs ls hok hl S hq
    refine lv_iload_n hx hb d_Mo_run_49 rfl (lv_at hl 0 rfl) ?_
    exact ret _ _ _ _ _ _ S hq d_Mo_run_50
  have B_Mo_run_27_25 : ∀ (v1 : Int32) (σ : nS) (H : Heap) (locs : List Loc) (ls : Array Slot), (o_Mo_run_27_25 v1 σ) → lv_has ls 3 [(0, .ref (a 0)), (1, .int v1), (2, .int (25 : Int32))] → St D (wM cI cZ a) A s σ H locs → F = s_Mo_run_27_25 v1 σ → W p l e ({ frames := 8, cells := 0, slots := 0, locals := 183 } : Room) s m args below meth c H locs 0 0 Q (F0 m 27 ls []) := by
    intro v1 σ H locs ls hok hl S hq
    refine lv_iload_n hx hb d_Mo_run_27 rfl (lv_at hl 2 rfl) ?_
    refine lv_iload_n hx hb d_Mo_run_28 rfl (lv_at hl 1 rfl) ?_
    obtain ⟨g1, hok⟩ := hok
    refine lv_icmp_ge (tgt := 49) hx hb d_Mo_run_29 rfl (fun _ => ?_) (fun h9 => absurd (g1) h9)
    exact B_Mo_run_49_25 _ _ _ _ hok (lv_sub hl [2] rfl) S hq
  have B_Mo_run_27_24 : ∀ (v1 : Int32) (σ : nS) (H : Heap) (locs : List Loc) (ls : Array Slot), (o_Mo_run_27_24 v1 σ) → lv_has ls 3 [(0, .ref (a 0)), (1, .int v1), (2, .int (24 : Int32))] → St D (wM cI cZ a) A s σ H locs → F = s_Mo_run_27_24 v1 σ → W p l e ({ frames := 8, cells := 0, slots := 0, locals := 183 } : Room) s m args below meth c H locs 0 0 Q (F0 m 27 ls []) := by
    intro v1 σ H locs ls hok hl S hq
    refine lv_iload_n hx hb d_Mo_run_27 rfl (lv_at hl 2 rfl) ?_
    refine lv_iload_n hx hb d_Mo_run_28 rfl (lv_at hl 1 rfl) ?_
    refine lv_icmp_ge (tgt := 49) hx hb d_Mo_run_29 rfl (fun h29 => ?_) (fun h29 => ?_)
    · have hq := hq.trans (if_pos h29)
      have hok := ok_pos h29 hok
      exact B_Mo_run_49_24 _ _ _ _ hok (lv_sub hl [2] rfl) S hq
    · have hq := hq.trans (if_neg h29)
      have hok := ok_neg h29 hok
      refine lv_aload_n hx hb d_Mo_run_32 rfl (lv_at hl 0 rfl) ?_
      refine g_Mo_99 hx hb hts hown hK S.1 d_Mo_run_33 ?_
      refine lv_if_ne (tgt := 49) hx hb d_Mo_run_36 rfl (fun h36 => ?_) (fun h36 => ?_)
      · have hq := hq.trans (if_neg h36)
        have hok := ok_neg h36 hok
        exact B_Mo_run_49_24 _ _ _ _ hok (lv_sub hl [2] rfl) S hq
      · have hq := hq.trans (if_pos h36)
        have hok := ok_pos h36 hok
        refine lv_aload_n hx hb d_Mo_run_39 rfl (lv_at hl 0 rfl) ?_
        obtain ⟨g2, hok⟩ := hok
        refine callVV X S hl (c_Mo_step _ g2) v_Mo_222 0 6 ⟨rfl, rfl⟩ (rk_dec (by decide)) rfl rfl (Nat.le_of_ble_eq_true rfl) d_Mo_run_40 (fun σ1 H locs e1 S => ?_)
        have hq := hq.trans (ap1_eq e1)
        have hok := ok_ap1 e1 hok
        refine lv_iinc (k := 2) (v := (25 : Int32)) hx hb d_Mo_run_43 hl rfl (by first | rfl | decide) (by decide) rfl (fun ls hl => ?_)
        refine lv_goto (tgt := 27) hx hb d_Mo_run_46 rfl ?_
        exact B_Mo_run_27_25 _ _ _ _ _ hok (lv_sub hl [1, 2, 0] rfl) S hq
  have B_Mo_run_27_23 : ∀ (v1 : Int32) (σ : nS) (H : Heap) (locs : List Loc) (ls : Array Slot), (o_Mo_run_27_23 v1 σ) → lv_has ls 3 [(0, .ref (a 0)), (1, .int v1), (2, .int (23 : Int32))] → St D (wM cI cZ a) A s σ H locs → F = s_Mo_run_27_23 v1 σ → W p l e ({ frames := 8, cells := 0, slots := 0, locals := 183 } : Room) s m args below meth c H locs 0 0 Q (F0 m 27 ls []) := by
    intro v1 σ H locs ls hok hl S hq
    refine lv_iload_n hx hb d_Mo_run_27 rfl (lv_at hl 2 rfl) ?_
    refine lv_iload_n hx hb d_Mo_run_28 rfl (lv_at hl 1 rfl) ?_
    refine lv_icmp_ge (tgt := 49) hx hb d_Mo_run_29 rfl (fun h29 => ?_) (fun h29 => ?_)
    · have hq := hq.trans (if_pos h29)
      have hok := ok_pos h29 hok
      exact B_Mo_run_49_23 _ _ _ _ hok (lv_sub hl [2] rfl) S hq
    · have hq := hq.trans (if_neg h29)
      have hok := ok_neg h29 hok
      refine lv_aload_n hx hb d_Mo_run_32 rfl (lv_at hl 0 rfl) ?_
      refine g_Mo_99 hx hb hts hown hK S.1 d_Mo_run_33 ?_
      refine lv_if_ne (tgt := 49) hx hb d_Mo_run_36 rfl (fun h36 => ?_) (fun h36 => ?_)
      · have hq := hq.trans (if_neg h36)
        have hok := ok_neg h36 hok
        exact B_Mo_run_49_23 _ _ _ _ hok (lv_sub hl [2] rfl) S hq
      · have hq := hq.trans (if_pos h36)
        have hok := ok_pos h36 hok
        refine lv_aload_n hx hb d_Mo_run_39 rfl (lv_at hl 0 rfl) ?_
        obtain ⟨g3, hok⟩ := hok
        refine callVV X S hl (c_Mo_step _ g3) v_Mo_222 0 6 ⟨rfl, rfl⟩ (rk_dec (by decide)) rfl rfl (Nat.le_of_ble_eq_true rfl) d_Mo_run_40 (fun σ1 H locs e1 S => ?_)
        have hq := hq.trans (ap1_eq e1)
        have hok := ok_ap1 e1 hok
        refine lv_iinc (k := 2) (v := (24 : Int32)) hx hb d_Mo_run_43 hl rfl (by first | rfl | decide) (by decide) rfl (fun ls hl => ?_)
        refine lv_goto (tgt := 27) hx hb d_Mo_run_46 rfl ?_
        exact B_Mo_run_27_24 _ _ _ _ _ hok (lv_sub hl [1, 2, 0] rfl) S hq
  have B_Mo_run_27_22 : ∀ (v1 : Int32) (σ : nS) (H : Heap) (locs : List Loc) (ls : Array Slot), (o_Mo_run_27_22 v1 σ) → lv_has ls 3 [(0, .ref (a 0)), (1, .int v1), (2, .int (22 : Int32))] → St D (wM cI cZ a) A s σ H locs → F = s_Mo_run_27_22 v1 σ → W p l e ({ frames := 8, cells := 0, slots := 0, locals := 183 } : Room) s m args below meth c H locs 0 0 Q (F0 m 27 ls []) := by
    intro v1 σ H locs ls hok hl S hq
    refine lv_iload_n hx hb d_Mo_run_27 rfl (lv_at hl 2 rfl) ?_
    refine lv_iload_n hx hb d_Mo_run_28 rfl (lv_at hl 1 rfl) ?_
    refine lv_icmp_ge (tgt := 49) hx hb d_Mo_run_29 rfl (fun h29 => ?_) (fun h29 => ?_)
    · have hq := hq.trans (if_pos h29)
      have hok := ok_pos h29 hok
      exact B_Mo_run_49_22 _ _ _ _ hok (lv_sub hl [2] rfl) S hq
    · have hq := hq.trans (if_neg h29)
      have hok := ok_neg h29 hok
      refine lv_aload_n hx hb d_Mo_run_32 rfl (lv_at hl 0 rfl) ?_
      refine g_Mo_99 hx hb hts hown hK S.1 d_Mo_run_33 ?_
      refine lv_if_ne (tgt := 49) hx hb d_Mo_run_36 rfl (fun h36 => ?_) (fun h36 => ?_)
      · have hq := hq.trans (if_neg h36)
        have hok := ok_neg h36 hok
        exact B_Mo_run_49_22 _ _ _ _ hok (lv_sub hl [2] rfl) S hq
      · have hq := hq.trans (if_pos h36)
        have hok := ok_pos h36 hok
        refine lv_aload_n hx hb d_Mo_run_39 rfl (lv_at hl 0 rfl) ?_
        obtain ⟨g4, hok⟩ := hok
        refine callVV X S hl (c_Mo_step _ g4) v_Mo_222 0 6 ⟨rfl, rfl⟩ (rk_dec (by decide)) rfl rfl (Nat.le_of_ble_eq_true rfl) d_Mo_run_40 (fun σ1 H locs e1 S => ?_)
        have hq := hq.trans (ap1_eq e1)
        have hok := ok_ap1 e1 hok
        refine lv_iinc (k := 2) (v := (23 : Int32)) hx hb d_Mo_run_43 hl rfl (by first | rfl | decide) (by decide) rfl (fun ls hl => ?_)
        refine lv_goto (tgt := 27) hx hb d_Mo_run_46 rfl ?_
        exact B_Mo_run_27_23 _ _ _ _ _ hok (lv_sub hl [1, 2, 0] rfl) S hq
  have B_Mo_run_27_21 : ∀ (v1 : Int32) (σ : nS) (H : Heap) (locs : List Loc) (ls : Array Slot), (o_Mo_run_27_21 v1 σ) → lv_has ls 3 [(0, .ref (a 0)), (1, .int v1), (2, .int (21 : Int32))] → St D (wM cI cZ a) A s σ H locs → F = s_Mo_run_27_21 v1 σ → W p l e ({ frames := 8, cells := 0, slots := 0, locals := 183 } : Room) s m args below meth c H locs 0 0 Q (F0 m 27 ls []) := by
    intro v1 σ H locs ls hok hl S hq
    refine lv_iload_n hx hb d_Mo_run_27 rfl (lv_at hl 2 rfl) ?_
    refine lv_iload_n hx hb d_Mo_run_28 rfl (lv_at hl 1 rfl) ?_
    refine lv_icmp_ge (tgt := 49) hx hb d_Mo_run_29 rfl (fun h29 => ?_) (fun h29 => ?_)
    · have hq := hq.trans (if_pos h29)
      have hok := ok_pos h29 hok
      exact B_Mo_run_49_21 _ _ _ _ hok (lv_sub hl [2] rfl) S hq
    · have hq := hq.trans (if_neg h29)
      have hok := ok_neg h29 hok
      refine lv_aload_n hx hb d_Mo_run_32 rfl (lv_at hl 0 rfl) ?_
      refine g_Mo_99 hx hb hts hown hK S.1 d_Mo_run_33 ?_
      refine lv_if_ne (tgt := 49) hx hb d_Mo_run_36 rfl (fun h36 => ?_) (fun h36 => ?_)
      · have hq := hq.trans (if_neg h36)
        have hok := ok_neg h36 hok
        exact B_Mo_run_49_21 _ _ _ _ hok (lv_sub hl [2] rfl) S hq
      · have hq := hq.trans (if_pos h36)
        have hok := ok_pos h36 hok
        refine lv_aload_n hx hb d_Mo_run_39 rfl (lv_at hl 0 rfl) ?_
        obtain ⟨g5, hok⟩ := hok
        refine callVV X S hl (c_Mo_step _ g5) v_Mo_222 0 6 ⟨rfl, rfl⟩ (rk_dec (by decide)) rfl rfl (Nat.le_of_ble_eq_true rfl) d_Mo_run_40 (fun σ1 H locs e1 S => ?_)
        have hq := hq.trans (ap1_eq e1)
        have hok := ok_ap1 e1 hok
        refine lv_iinc (k := 2) (v := (22 : Int32)) hx hb d_Mo_run_43 hl rfl (by first | rfl | decide) (by decide) rfl (fun ls hl => ?_)
        refine lv_goto (tgt := 27) hx hb d_Mo_run_46 rfl ?_
        exact B_Mo_run_27_22 _ _ _ _ _ hok (lv_sub hl [1, 2, 0] rfl) S hq
  have B_Mo_run_27_20 : ∀ (v1 : Int32) (σ : nS) (H : Heap) (locs : List Loc) (ls : Array Slot), (o_Mo_run_27_20 v1 σ) → lv_has ls 3 [(0, .ref (a 0)), (1, .int v1), (2, .int (20 : Int32))] → St D (wM cI cZ a) A s σ H locs → F = s_Mo_run_27_20 v1 σ → W p l e ({ frames := 8, cells := 0, slots := 0, locals := 183 } : Room) s m args below meth c H locs 0 0 Q (F0 m 27 ls []) := by
    intro v1 σ H locs ls hok hl S hq
    refine lv_iload_n hx hb d_Mo_run_27 rfl (lv_at hl 2 rfl) ?_
    refine lv_iload_n hx hb d_Mo_run_28 rfl (lv_at hl 1 rfl) ?_
    refine lv_icmp_ge (tgt := 49) hx hb d_Mo_run_29 rfl (fun h29 => ?_) (fun h29 => ?_)
    · have hq := hq.trans (if_pos h29)
      have hok := ok_pos h29 hok
      exact B_Mo_run_49_20 _ _ _ _ hok (lv_sub hl [2] rfl) S hq
    · have hq := hq.trans (if_neg h29)
      have hok := ok_neg h29 hok
      refine lv_aload_n hx hb d_Mo_run_32 rfl (lv_at hl 0 rfl) ?_
      refine g_Mo_99 hx hb hts hown hK S.1 d_Mo_run_33 ?_
      refine lv_if_ne (tgt := 49) hx hb d_Mo_run_36 rfl (fun h36 => ?_) (fun h36 => ?_)
      · have hq := hq.trans (if_neg h36)
        have hok := ok_neg h36 hok
        exact B_Mo_run_49_20 _ _ _ _ hok (lv_sub hl [2] rfl) S hq
      · have hq := hq.trans (if_pos h36)
        have hok := ok_pos h36 hok
        refine lv_aload_n hx hb d_Mo_run_39 rfl (lv_at hl 0 rfl) ?_
        obtain ⟨g6, hok⟩ := hok
        refine callVV X S hl (c_Mo_step _ g6) v_Mo_222 0 6 ⟨rfl, rfl⟩ (rk_dec (by decide)) rfl rfl (Nat.le_of_ble_eq_true rfl) d_Mo_run_40 (fun σ1 H locs e1 S => ?_)
        have hq := hq.trans (ap1_eq e1)
        have hok := ok_ap1 e1 hok
        refine lv_iinc (k := 2) (v := (21 : Int32)) hx hb d_Mo_run_43 hl rfl (by first | rfl | decide) (by decide) rfl (fun ls hl => ?_)
        refine lv_goto (tgt := 27) hx hb d_Mo_run_46 rfl ?_
        exact B_Mo_run_27_21 _ _ _ _ _ hok (lv_sub hl [1, 2, 0] rfl) S hq
  have B_Mo_run_27_19 : ∀ (v1 : Int32) (σ : nS) (H : Heap) (locs : List Loc) (ls : Array Slot), (o_Mo_run_27_19 v1 σ) → lv_has ls 3 [(0, .ref (a 0)), (1, .int v1), (2, .int (19 : Int32))] → St D (wM cI cZ a) A s σ H locs → F = s_Mo_run_27_19 v1 σ → W p l e ({ frames := 8, cells := 0, slots := 0, locals := 183 } : Room) s m args below meth c H locs 0 0 Q (F0 m 27 ls []) := by
    intro v1 σ H locs ls hok hl S hq
    refine lv_iload_n hx hb d_Mo_run_27 rfl (lv_at hl 2 rfl) ?_
    refine lv_iload_n hx hb d_Mo_run_28 rfl (lv_at hl 1 rfl) ?_
    refine lv_icmp_ge (tgt := 49) hx hb d_Mo_run_29 rfl (fun h29 => ?_) (fun h29 => ?_)
    · have hq := hq.trans (if_pos h29)
      have hok := ok_pos h29 hok
      exact B_Mo_run_49_19 _ _ _ _ hok (lv_sub hl [2] rfl) S hq
    · have hq := hq.trans (if_neg h29)
      have hok := ok_neg h29 hok
      refine lv_aload_n hx hb d_Mo_run_32 rfl (lv_at hl 0 rfl) ?_
      refine g_Mo_99 hx hb hts hown hK S.1 d_Mo_run_33 ?_
      refine lv_if_ne (tgt := 49) hx hb d_Mo_run_36 rfl (fun h36 => ?_) (fun h36 => ?_)
      · have hq := hq.trans (if_neg h36)
        have hok := ok_neg h36 hok
        exact B_Mo_run_49_19 _ _ _ _ hok (lv_sub hl [2] rfl) S hq
      · have hq := hq.trans (if_pos h36)
        have hok := ok_pos h36 hok
        refine lv_aload_n hx hb d_Mo_run_39 rfl (lv_at hl 0 rfl) ?_
        obtain ⟨g7, hok⟩ := hok
        refine callVV X S hl (c_Mo_step _ g7) v_Mo_222 0 6 ⟨rfl, rfl⟩ (rk_dec (by decide)) rfl rfl (Nat.le_of_ble_eq_true rfl) d_Mo_run_40 (fun σ1 H locs e1 S => ?_)
        have hq := hq.trans (ap1_eq e1)
        have hok := ok_ap1 e1 hok
        refine lv_iinc (k := 2) (v := (20 : Int32)) hx hb d_Mo_run_43 hl rfl (by first | rfl | decide) (by decide) rfl (fun ls hl => ?_)
        refine lv_goto (tgt := 27) hx hb d_Mo_run_46 rfl ?_
        exact B_Mo_run_27_20 _ _ _ _ _ hok (lv_sub hl [1, 2, 0] rfl) S hq
  have B_Mo_run_27_18 : ∀ (v1 : Int32) (σ : nS) (H : Heap) (locs : List Loc) (ls : Array Slot), (o_Mo_run_27_18 v1 σ) → lv_has ls 3 [(0, .ref (a 0)), (1, .int v1), (2, .int (18 : Int32))] → St D (wM cI cZ a) A s σ H locs → F = s_Mo_run_27_18 v1 σ → W p l e ({ frames := 8, cells := 0, slots := 0, locals := 183 } : Room) s m args below meth c H locs 0 0 Q (F0 m 27 ls []) := by
    intro v1 σ H locs ls hok hl S hq
    refine lv_iload_n hx hb d_Mo_run_27 rfl (lv_at hl 2 rfl) ?_
    refine lv_iload_n hx hb d_Mo_run_28 rfl (lv_at hl 1 rfl) ?_
    refine lv_icmp_ge (tgt := 49) hx hb d_Mo_run_29 rfl (fun h29 => ?_) (fun h29 => ?_)
    · have hq := hq.trans (if_pos h29)
      have hok := ok_pos h29 hok
      exact B_Mo_run_49_18 _ _ _ _ hok (lv_sub hl [2] rfl) S hq
    · have hq := hq.trans (if_neg h29)
      have hok := ok_neg h29 hok
      refine lv_aload_n hx hb d_Mo_run_32 rfl (lv_at hl 0 rfl) ?_
      refine g_Mo_99 hx hb hts hown hK S.1 d_Mo_run_33 ?_
      refine lv_if_ne (tgt := 49) hx hb d_Mo_run_36 rfl (fun h36 => ?_) (fun h36 => ?_)
      · have hq := hq.trans (if_neg h36)
        have hok := ok_neg h36 hok
        exact B_Mo_run_49_18 _ _ _ _ hok (lv_sub hl [2] rfl) S hq
      · have hq := hq.trans (if_pos h36)
        have hok := ok_pos h36 hok
        refine lv_aload_n hx hb d_Mo_run_39 rfl (lv_at hl 0 rfl) ?_
        obtain ⟨g8, hok⟩ := hok
        refine callVV X S hl (c_Mo_step _ g8) v_Mo_222 0 6 ⟨rfl, rfl⟩ (rk_dec (by decide)) rfl rfl (Nat.le_of_ble_eq_true rfl) d_Mo_run_40 (fun σ1 H locs e1 S => ?_)
        have hq := hq.trans (ap1_eq e1)
        have hok := ok_ap1 e1 hok
        refine lv_iinc (k := 2) (v := (19 : Int32)) hx hb d_Mo_run_43 hl rfl (by first | rfl | decide) (by decide) rfl (fun ls hl => ?_)
        refine lv_goto (tgt := 27) hx hb d_Mo_run_46 rfl ?_
        exact B_Mo_run_27_19 _ _ _ _ _ hok (lv_sub hl [1, 2, 0] rfl) S hq
  have B_Mo_run_27_17 : ∀ (v1 : Int32) (σ : nS) (H : Heap) (locs : List Loc) (ls : Array Slot), (o_Mo_run_27_17 v1 σ) → lv_has ls 3 [(0, .ref (a 0)), (1, .int v1), (2, .int (17 : Int32))] → St D (wM cI cZ a) A s σ H locs → F = s_Mo_run_27_17 v1 σ → W p l e ({ frames := 8, cells := 0, slots := 0, locals := 183 } : Room) s m args below meth c H locs 0 0 Q (F0 m 27 ls []) := by
    intro v1 σ H locs ls hok hl S hq
    refine lv_iload_n hx hb d_Mo_run_27 rfl (lv_at hl 2 rfl) ?_
    refine lv_iload_n hx hb d_Mo_run_28 rfl (lv_at hl 1 rfl) ?_
    refine lv_icmp_ge (tgt := 49) hx hb d_Mo_run_29 rfl (fun h29 => ?_) (fun h29 => ?_)
    · have hq := hq.trans (if_pos h29)
      have hok := ok_pos h29 hok
      exact B_Mo_run_49_17 _ _ _ _ hok (lv_sub hl [2] rfl) S hq
    · have hq := hq.trans (if_neg h29)
      have hok := ok_neg h29 hok
      refine lv_aload_n hx hb d_Mo_run_32 rfl (lv_at hl 0 rfl) ?_
      refine g_Mo_99 hx hb hts hown hK S.1 d_Mo_run_33 ?_
      refine lv_if_ne (tgt := 49) hx hb d_Mo_run_36 rfl (fun h36 => ?_) (fun h36 => ?_)
      · have hq := hq.trans (if_neg h36)
        have hok := ok_neg h36 hok
        exact B_Mo_run_49_17 _ _ _ _ hok (lv_sub hl [2] rfl) S hq
      · have hq := hq.trans (if_pos h36)
        have hok := ok_pos h36 hok
        refine lv_aload_n hx hb d_Mo_run_39 rfl (lv_at hl 0 rfl) ?_
        obtain ⟨g9, hok⟩ := hok
        refine callVV X S hl (c_Mo_step _ g9) v_Mo_222 0 6 ⟨rfl, rfl⟩ (rk_dec (by decide)) rfl rfl (Nat.le_of_ble_eq_true rfl) d_Mo_run_40 (fun σ1 H locs e1 S => ?_)
        have hq := hq.trans (ap1_eq e1)
        have hok := ok_ap1 e1 hok
        refine lv_iinc (k := 2) (v := (18 : Int32)) hx hb d_Mo_run_43 hl rfl (by first | rfl | decide) (by decide) rfl (fun ls hl => ?_)
        refine lv_goto (tgt := 27) hx hb d_Mo_run_46 rfl ?_
        exact B_Mo_run_27_18 _ _ _ _ _ hok (lv_sub hl [1, 2, 0] rfl) S hq
  have B_Mo_run_27_16 : ∀ (v1 : Int32) (σ : nS) (H : Heap) (locs : List Loc) (ls : Array Slot), (o_Mo_run_27_16 v1 σ) → lv_has ls 3 [(0, .ref (a 0)), (1, .int v1), (2, .int (16 : Int32))] → St D (wM cI cZ a) A s σ H locs → F = s_Mo_run_27_16 v1 σ → W p l e ({ frames := 8, cells := 0, slots := 0, locals := 183 } : Room) s m args below meth c H locs 0 0 Q (F0 m 27 ls []) := by
    intro v1 σ H locs ls hok hl S hq
    refine lv_iload_n hx hb d_Mo_run_27 rfl (lv_at hl 2 rfl) ?_
    refine lv_iload_n hx hb d_Mo_run_28 rfl (lv_at hl 1 rfl) ?_
    refine lv_icmp_ge (tgt := 49) hx hb d_Mo_run_29 rfl (fun h29 => ?_) (fun h29 => ?_)
    · have hq := hq.trans (if_pos h29)
      have hok := ok_pos h29 hok
      exact B_Mo_run_49_16 _ _ _ _ hok (lv_sub hl [2] rfl) S hq
    · have hq := hq.trans (if_neg h29)
      have hok := ok_neg h29 hok
      refine lv_aload_n hx hb d_Mo_run_32 rfl (lv_at hl 0 rfl) ?_
      refine g_Mo_99 hx hb hts hown hK S.1 d_Mo_run_33 ?_
      refine lv_if_ne (tgt := 49) hx hb d_Mo_run_36 rfl (fun h36 => ?_) (fun h36 => ?_)
      · have hq := hq.trans (if_neg h36)
        have hok := ok_neg h36 hok
        exact B_Mo_run_49_16 _ _ _ _ hok (lv_sub hl [2] rfl) S hq
      · have hq := hq.trans (if_pos h36)
        have hok := ok_pos h36 hok
        refine lv_aload_n hx hb d_Mo_run_39 rfl (lv_at hl 0 rfl) ?_
        obtain ⟨g10, hok⟩ := hok
        refine callVV X S hl (c_Mo_step _ g10) v_Mo_222 0 6 ⟨rfl, rfl⟩ (rk_dec (by decide)) rfl rfl (Nat.le_of_ble_eq_true rfl) d_Mo_run_40 (fun σ1 H locs e1 S => ?_)
        have hq := hq.trans (ap1_eq e1)
        have hok := ok_ap1 e1 hok
        refine lv_iinc (k := 2) (v := (17 : Int32)) hx hb d_Mo_run_43 hl rfl (by first | rfl | decide) (by decide) rfl (fun ls hl => ?_)
        refine lv_goto (tgt := 27) hx hb d_Mo_run_46 rfl ?_
        exact B_Mo_run_27_17 _ _ _ _ _ hok (lv_sub hl [1, 2, 0] rfl) S hq
  have B_Mo_run_27_15 : ∀ (v1 : Int32) (σ : nS) (H : Heap) (locs : List Loc) (ls : Array Slot), (o_Mo_run_27_15 v1 σ) → lv_has ls 3 [(0, .ref (a 0)), (1, .int v1), (2, .int (15 : Int32))] → St D (wM cI cZ a) A s σ H locs → F = s_Mo_run_27_15 v1 σ → W p l e ({ frames := 8, cells := 0, slots := 0, locals := 183 } : Room) s m args below meth c H locs 0 0 Q (F0 m 27 ls []) := by
    intro v1 σ H locs ls hok hl S hq
    refine lv_iload_n hx hb d_Mo_run_27 rfl (lv_at hl 2 rfl) ?_
    refine lv_iload_n hx hb d_Mo_run_28 rfl (lv_at hl 1 rfl) ?_
    refine lv_icmp_ge (tgt := 49) hx hb d_Mo_run_29 rfl (fun h29 => ?_) (fun h29 => ?_)
    · have hq := hq.trans (if_pos h29)
      have hok := ok_pos h29 hok
      exact B_Mo_run_49_15 _ _ _ _ hok (lv_sub hl [2] rfl) S hq
    · have hq := hq.trans (if_neg h29)
      have hok := ok_neg h29 hok
      refine lv_aload_n hx hb d_Mo_run_32 rfl (lv_at hl 0 rfl) ?_
      refine g_Mo_99 hx hb hts hown hK S.1 d_Mo_run_33 ?_
      refine lv_if_ne (tgt := 49) hx hb d_Mo_run_36 rfl (fun h36 => ?_) (fun h36 => ?_)
      · have hq := hq.trans (if_neg h36)
        have hok := ok_neg h36 hok
        exact B_Mo_run_49_15 _ _ _ _ hok (lv_sub hl [2] rfl) S hq
      · have hq := hq.trans (if_pos h36)
        have hok := ok_pos h36 hok
        refine lv_aload_n hx hb d_Mo_run_39 rfl (lv_at hl 0 rfl) ?_
        obtain ⟨g11, hok⟩ := hok
        refine callVV X S hl (c_Mo_step _ g11) v_Mo_222 0 6 ⟨rfl, rfl⟩ (rk_dec (by decide)) rfl rfl (Nat.le_of_ble_eq_true rfl) d_Mo_run_40 (fun σ1 H locs e1 S => ?_)
        have hq := hq.trans (ap1_eq e1)
        have hok := ok_ap1 e1 hok
        refine lv_iinc (k := 2) (v := (16 : Int32)) hx hb d_Mo_run_43 hl rfl (by first | rfl | decide) (by decide) rfl (fun ls hl => ?_)
        refine lv_goto (tgt := 27) hx hb d_Mo_run_46 rfl ?_
        exact B_Mo_run_27_16 _ _ _ _ _ hok (lv_sub hl [1, 2, 0] rfl) S hq
  have B_Mo_run_27_14 : ∀ (v1 : Int32) (σ : nS) (H : Heap) (locs : List Loc) (ls : Array Slot), (o_Mo_run_27_14 v1 σ) → lv_has ls 3 [(0, .ref (a 0)), (1, .int v1), (2, .int (14 : Int32))] → St D (wM cI cZ a) A s σ H locs → F = s_Mo_run_27_14 v1 σ → W p l e ({ frames := 8, cells := 0, slots := 0, locals := 183 } : Room) s m args below meth c H locs 0 0 Q (F0 m 27 ls []) := by
    intro v1 σ H locs ls hok hl S hq
    refine lv_iload_n hx hb d_Mo_run_27 rfl (lv_at hl 2 rfl) ?_
    refine lv_iload_n hx hb d_Mo_run_28 rfl (lv_at hl 1 rfl) ?_
    refine lv_icmp_ge (tgt := 49) hx hb d_Mo_run_29 rfl (fun h29 => ?_) (fun h29 => ?_)
    · have hq := hq.trans (if_pos h29)
      have hok := ok_pos h29 hok
      exact B_Mo_run_49_14 _ _ _ _ hok (lv_sub hl [2] rfl) S hq
    · have hq := hq.trans (if_neg h29)
      have hok := ok_neg h29 hok
      refine lv_aload_n hx hb d_Mo_run_32 rfl (lv_at hl 0 rfl) ?_
      refine g_Mo_99 hx hb hts hown hK S.1 d_Mo_run_33 ?_
      refine lv_if_ne (tgt := 49) hx hb d_Mo_run_36 rfl (fun h36 => ?_) (fun h36 => ?_)
      · have hq := hq.trans (if_neg h36)
        have hok := ok_neg h36 hok
        exact B_Mo_run_49_14 _ _ _ _ hok (lv_sub hl [2] rfl) S hq
      · have hq := hq.trans (if_pos h36)
        have hok := ok_pos h36 hok
        refine lv_aload_n hx hb d_Mo_run_39 rfl (lv_at hl 0 rfl) ?_
        obtain ⟨g12, hok⟩ := hok
        refine callVV X S hl (c_Mo_step _ g12) v_Mo_222 0 6 ⟨rfl, rfl⟩ (rk_dec (by decide)) rfl rfl (Nat.le_of_ble_eq_true rfl) d_Mo_run_40 (fun σ1 H locs e1 S => ?_)
        have hq := hq.trans (ap1_eq e1)
        have hok := ok_ap1 e1 hok
        refine lv_iinc (k := 2) (v := (15 : Int32)) hx hb d_Mo_run_43 hl rfl (by first | rfl | decide) (by decide) rfl (fun ls hl => ?_)
        refine lv_goto (tgt := 27) hx hb d_Mo_run_46 rfl ?_
        exact B_Mo_run_27_15 _ _ _ _ _ hok (lv_sub hl [1, 2, 0] rfl) S hq
  have B_Mo_run_27_13 : ∀ (v1 : Int32) (σ : nS) (H : Heap) (locs : List Loc) (ls : Array Slot), (o_Mo_run_27_13 v1 σ) → lv_has ls 3 [(0, .ref (a 0)), (1, .int v1), (2, .int (13 : Int32))] → St D (wM cI cZ a) A s σ H locs → F = s_Mo_run_27_13 v1 σ → W p l e ({ frames := 8, cells := 0, slots := 0, locals := 183 } : Room) s m args below meth c H locs 0 0 Q (F0 m 27 ls []) := by
    intro v1 σ H locs ls hok hl S hq
    refine lv_iload_n hx hb d_Mo_run_27 rfl (lv_at hl 2 rfl) ?_
    refine lv_iload_n hx hb d_Mo_run_28 rfl (lv_at hl 1 rfl) ?_
    refine lv_icmp_ge (tgt := 49) hx hb d_Mo_run_29 rfl (fun h29 => ?_) (fun h29 => ?_)
    · have hq := hq.trans (if_pos h29)
      have hok := ok_pos h29 hok
      exact B_Mo_run_49_13 _ _ _ _ hok (lv_sub hl [2] rfl) S hq
    · have hq := hq.trans (if_neg h29)
      have hok := ok_neg h29 hok
      refine lv_aload_n hx hb d_Mo_run_32 rfl (lv_at hl 0 rfl) ?_
      refine g_Mo_99 hx hb hts hown hK S.1 d_Mo_run_33 ?_
      refine lv_if_ne (tgt := 49) hx hb d_Mo_run_36 rfl (fun h36 => ?_) (fun h36 => ?_)
      · have hq := hq.trans (if_neg h36)
        have hok := ok_neg h36 hok
        exact B_Mo_run_49_13 _ _ _ _ hok (lv_sub hl [2] rfl) S hq
      · have hq := hq.trans (if_pos h36)
        have hok := ok_pos h36 hok
        refine lv_aload_n hx hb d_Mo_run_39 rfl (lv_at hl 0 rfl) ?_
        obtain ⟨g13, hok⟩ := hok
        refine callVV X S hl (c_Mo_step _ g13) v_Mo_222 0 6 ⟨rfl, rfl⟩ (rk_dec (by decide)) rfl rfl (Nat.le_of_ble_eq_true rfl) d_Mo_run_40 (fun σ1 H locs e1 S => ?_)
        have hq := hq.trans (ap1_eq e1)
        have hok := ok_ap1 e1 hok
        refine lv_iinc (k := 2) (v := (14 : Int32)) hx hb d_Mo_run_43 hl rfl (by first | rfl | decide) (by decide) rfl (fun ls hl => ?_)
        refine lv_goto (tgt := 27) hx hb d_Mo_run_46 rfl ?_
        exact B_Mo_run_27_14 _ _ _ _ _ hok (lv_sub hl [1, 2, 0] rfl) S hq
  have B_Mo_run_27_12 : ∀ (v1 : Int32) (σ : nS) (H : Heap) (locs : List Loc) (ls : Array Slot), (o_Mo_run_27_12 v1 σ) → lv_has ls 3 [(0, .ref (a 0)), (1, .int v1), (2, .int (12 : Int32))] → St D (wM cI cZ a) A s σ H locs → F = s_Mo_run_27_12 v1 σ → W p l e ({ frames := 8, cells := 0, slots := 0, locals := 183 } : Room) s m args below meth c H locs 0 0 Q (F0 m 27 ls []) := by
    intro v1 σ H locs ls hok hl S hq
    refine lv_iload_n hx hb d_Mo_run_27 rfl (lv_at hl 2 rfl) ?_
    refine lv_iload_n hx hb d_Mo_run_28 rfl (lv_at hl 1 rfl) ?_
    refine lv_icmp_ge (tgt := 49) hx hb d_Mo_run_29 rfl (fun h29 => ?_) (fun h29 => ?_)
    · have hq := hq.trans (if_pos h29)
      have hok := ok_pos h29 hok
      exact B_Mo_run_49_12 _ _ _ _ hok (lv_sub hl [2] rfl) S hq
    · have hq := hq.trans (if_neg h29)
      have hok := ok_neg h29 hok
      refine lv_aload_n hx hb d_Mo_run_32 rfl (lv_at hl 0 rfl) ?_
      refine g_Mo_99 hx hb hts hown hK S.1 d_Mo_run_33 ?_
      refine lv_if_ne (tgt := 49) hx hb d_Mo_run_36 rfl (fun h36 => ?_) (fun h36 => ?_)
      · have hq := hq.trans (if_neg h36)
        have hok := ok_neg h36 hok
        exact B_Mo_run_49_12 _ _ _ _ hok (lv_sub hl [2] rfl) S hq
      · have hq := hq.trans (if_pos h36)
        have hok := ok_pos h36 hok
        refine lv_aload_n hx hb d_Mo_run_39 rfl (lv_at hl 0 rfl) ?_
        obtain ⟨g14, hok⟩ := hok
        refine callVV X S hl (c_Mo_step _ g14) v_Mo_222 0 6 ⟨rfl, rfl⟩ (rk_dec (by decide)) rfl rfl (Nat.le_of_ble_eq_true rfl) d_Mo_run_40 (fun σ1 H locs e1 S => ?_)
        have hq := hq.trans (ap1_eq e1)
        have hok := ok_ap1 e1 hok
        refine lv_iinc (k := 2) (v := (13 : Int32)) hx hb d_Mo_run_43 hl rfl (by first | rfl | decide) (by decide) rfl (fun ls hl => ?_)
        refine lv_goto (tgt := 27) hx hb d_Mo_run_46 rfl ?_
        exact B_Mo_run_27_13 _ _ _ _ _ hok (lv_sub hl [1, 2, 0] rfl) S hq
  have B_Mo_run_27_11 : ∀ (v1 : Int32) (σ : nS) (H : Heap) (locs : List Loc) (ls : Array Slot), (o_Mo_run_27_11 v1 σ) → lv_has ls 3 [(0, .ref (a 0)), (1, .int v1), (2, .int (11 : Int32))] → St D (wM cI cZ a) A s σ H locs → F = s_Mo_run_27_11 v1 σ → W p l e ({ frames := 8, cells := 0, slots := 0, locals := 183 } : Room) s m args below meth c H locs 0 0 Q (F0 m 27 ls []) := by
    intro v1 σ H locs ls hok hl S hq
    refine lv_iload_n hx hb d_Mo_run_27 rfl (lv_at hl 2 rfl) ?_
    refine lv_iload_n hx hb d_Mo_run_28 rfl (lv_at hl 1 rfl) ?_
    refine lv_icmp_ge (tgt := 49) hx hb d_Mo_run_29 rfl (fun h29 => ?_) (fun h29 => ?_)
    · have hq := hq.trans (if_pos h29)
      have hok := ok_pos h29 hok
      exact B_Mo_run_49_11 _ _ _ _ hok (lv_sub hl [2] rfl) S hq
    · have hq := hq.trans (if_neg h29)
      have hok := ok_neg h29 hok
      refine lv_aload_n hx hb d_Mo_run_32 rfl (lv_at hl 0 rfl) ?_
      refine g_Mo_99 hx hb hts hown hK S.1 d_Mo_run_33 ?_
      refine lv_if_ne (tgt := 49) hx hb d_Mo_run_36 rfl (fun h36 => ?_) (fun h36 => ?_)
      · have hq := hq.trans (if_neg h36)
        have hok := ok_neg h36 hok
        exact B_Mo_run_49_11 _ _ _ _ hok (lv_sub hl [2] rfl) S hq
      · have hq := hq.trans (if_pos h36)
        have hok := ok_pos h36 hok
        refine lv_aload_n hx hb d_Mo_run_39 rfl (lv_at hl 0 rfl) ?_
        obtain ⟨g15, hok⟩ := hok
        refine callVV X S hl (c_Mo_step _ g15) v_Mo_222 0 6 ⟨rfl, rfl⟩ (rk_dec (by decide)) rfl rfl (Nat.le_of_ble_eq_true rfl) d_Mo_run_40 (fun σ1 H locs e1 S => ?_)
        have hq := hq.trans (ap1_eq e1)
        have hok := ok_ap1 e1 hok
        refine lv_iinc (k := 2) (v := (12 : Int32)) hx hb d_Mo_run_43 hl rfl (by first | rfl | decide) (by decide) rfl (fun ls hl => ?_)
        refine lv_goto (tgt := 27) hx hb d_Mo_run_46 rfl ?_
        exact B_Mo_run_27_12 _ _ _ _ _ hok (lv_sub hl [1, 2, 0] rfl) S hq
  have B_Mo_run_27_10 : ∀ (v1 : Int32) (σ : nS) (H : Heap) (locs : List Loc) (ls : Array Slot), (o_Mo_run_27_10 v1 σ) → lv_has ls 3 [(0, .ref (a 0)), (1, .int v1), (2, .int (10 : Int32))] → St D (wM cI cZ a) A s σ H locs → F = s_Mo_run_27_10 v1 σ → W p l e ({ frames := 8, cells := 0, slots := 0, locals := 183 } : Room) s m args below meth c H locs 0 0 Q (F0 m 27 ls []) := by
    intro v1 σ H locs ls hok hl S hq
    refine lv_iload_n hx hb d_Mo_run_27 rfl (lv_at hl 2 rfl) ?_
    refine lv_iload_n hx hb d_Mo_run_28 rfl (lv_at hl 1 rfl) ?_
    refine lv_icmp_ge (tgt := 49) hx hb d_Mo_run_29 rfl (fun h29 => ?_) (fun h29 => ?_)
    · have hq := hq.trans (if_pos h29)
      have hok := ok_pos h29 hok
      exact B_Mo_run_49_10 _ _ _ _ hok (lv_sub hl [2] rfl) S hq
    · have hq := hq.trans (if_neg h29)
      have hok := ok_neg h29 hok
      refine lv_aload_n hx hb d_Mo_run_32 rfl (lv_at hl 0 rfl) ?_
      refine g_Mo_99 hx hb hts hown hK S.1 d_Mo_run_33 ?_
      refine lv_if_ne (tgt := 49) hx hb d_Mo_run_36 rfl (fun h36 => ?_) (fun h36 => ?_)
      · have hq := hq.trans (if_neg h36)
        have hok := ok_neg h36 hok
        exact B_Mo_run_49_10 _ _ _ _ hok (lv_sub hl [2] rfl) S hq
      · have hq := hq.trans (if_pos h36)
        have hok := ok_pos h36 hok
        refine lv_aload_n hx hb d_Mo_run_39 rfl (lv_at hl 0 rfl) ?_
        obtain ⟨g16, hok⟩ := hok
        refine callVV X S hl (c_Mo_step _ g16) v_Mo_222 0 6 ⟨rfl, rfl⟩ (rk_dec (by decide)) rfl rfl (Nat.le_of_ble_eq_true rfl) d_Mo_run_40 (fun σ1 H locs e1 S => ?_)
        have hq := hq.trans (ap1_eq e1)
        have hok := ok_ap1 e1 hok
        refine lv_iinc (k := 2) (v := (11 : Int32)) hx hb d_Mo_run_43 hl rfl (by first | rfl | decide) (by decide) rfl (fun ls hl => ?_)
        refine lv_goto (tgt := 27) hx hb d_Mo_run_46 rfl ?_
        exact B_Mo_run_27_11 _ _ _ _ _ hok (lv_sub hl [1, 2, 0] rfl) S hq
  have B_Mo_run_27_9 : ∀ (v1 : Int32) (σ : nS) (H : Heap) (locs : List Loc) (ls : Array Slot), (o_Mo_run_27_9 v1 σ) → lv_has ls 3 [(0, .ref (a 0)), (1, .int v1), (2, .int (9 : Int32))] → St D (wM cI cZ a) A s σ H locs → F = s_Mo_run_27_9 v1 σ → W p l e ({ frames := 8, cells := 0, slots := 0, locals := 183 } : Room) s m args below meth c H locs 0 0 Q (F0 m 27 ls []) := by
    intro v1 σ H locs ls hok hl S hq
    refine lv_iload_n hx hb d_Mo_run_27 rfl (lv_at hl 2 rfl) ?_
    refine lv_iload_n hx hb d_Mo_run_28 rfl (lv_at hl 1 rfl) ?_
    refine lv_icmp_ge (tgt := 49) hx hb d_Mo_run_29 rfl (fun h29 => ?_) (fun h29 => ?_)
    · have hq := hq.trans (if_pos h29)
      have hok := ok_pos h29 hok
      exact B_Mo_run_49_9 _ _ _ _ hok (lv_sub hl [2] rfl) S hq
    · have hq := hq.trans (if_neg h29)
      have hok := ok_neg h29 hok
      refine lv_aload_n hx hb d_Mo_run_32 rfl (lv_at hl 0 rfl) ?_
      refine g_Mo_99 hx hb hts hown hK S.1 d_Mo_run_33 ?_
      refine lv_if_ne (tgt := 49) hx hb d_Mo_run_36 rfl (fun h36 => ?_) (fun h36 => ?_)
      · have hq := hq.trans (if_neg h36)
        have hok := ok_neg h36 hok
        exact B_Mo_run_49_9 _ _ _ _ hok (lv_sub hl [2] rfl) S hq
      · have hq := hq.trans (if_pos h36)
        have hok := ok_pos h36 hok
        refine lv_aload_n hx hb d_Mo_run_39 rfl (lv_at hl 0 rfl) ?_
        obtain ⟨g17, hok⟩ := hok
        refine callVV X S hl (c_Mo_step _ g17) v_Mo_222 0 6 ⟨rfl, rfl⟩ (rk_dec (by decide)) rfl rfl (Nat.le_of_ble_eq_true rfl) d_Mo_run_40 (fun σ1 H locs e1 S => ?_)
        have hq := hq.trans (ap1_eq e1)
        have hok := ok_ap1 e1 hok
        refine lv_iinc (k := 2) (v := (10 : Int32)) hx hb d_Mo_run_43 hl rfl (by first | rfl | decide) (by decide) rfl (fun ls hl => ?_)
        refine lv_goto (tgt := 27) hx hb d_Mo_run_46 rfl ?_
        exact B_Mo_run_27_10 _ _ _ _ _ hok (lv_sub hl [1, 2, 0] rfl) S hq
  have B_Mo_run_27_8 : ∀ (v1 : Int32) (σ : nS) (H : Heap) (locs : List Loc) (ls : Array Slot), (o_Mo_run_27_8 v1 σ) → lv_has ls 3 [(0, .ref (a 0)), (1, .int v1), (2, .int (8 : Int32))] → St D (wM cI cZ a) A s σ H locs → F = s_Mo_run_27_8 v1 σ → W p l e ({ frames := 8, cells := 0, slots := 0, locals := 183 } : Room) s m args below meth c H locs 0 0 Q (F0 m 27 ls []) := by
    intro v1 σ H locs ls hok hl S hq
    refine lv_iload_n hx hb d_Mo_run_27 rfl (lv_at hl 2 rfl) ?_
    refine lv_iload_n hx hb d_Mo_run_28 rfl (lv_at hl 1 rfl) ?_
    refine lv_icmp_ge (tgt := 49) hx hb d_Mo_run_29 rfl (fun h29 => ?_) (fun h29 => ?_)
    · have hq := hq.trans (if_pos h29)
      have hok := ok_pos h29 hok
      exact B_Mo_run_49_8 _ _ _ _ hok (lv_sub hl [2] rfl) S hq
    · have hq := hq.trans (if_neg h29)
      have hok := ok_neg h29 hok
      refine lv_aload_n hx hb d_Mo_run_32 rfl (lv_at hl 0 rfl) ?_
      refine g_Mo_99 hx hb hts hown hK S.1 d_Mo_run_33 ?_
      refine lv_if_ne (tgt := 49) hx hb d_Mo_run_36 rfl (fun h36 => ?_) (fun h36 => ?_)
      · have hq := hq.trans (if_neg h36)
        have hok := ok_neg h36 hok
        exact B_Mo_run_49_8 _ _ _ _ hok (lv_sub hl [2] rfl) S hq
      · have hq := hq.trans (if_pos h36)
        have hok := ok_pos h36 hok
        refine lv_aload_n hx hb d_Mo_run_39 rfl (lv_at hl 0 rfl) ?_
        obtain ⟨g18, hok⟩ := hok
        refine callVV X S hl (c_Mo_step _ g18) v_Mo_222 0 6 ⟨rfl, rfl⟩ (rk_dec (by decide)) rfl rfl (Nat.le_of_ble_eq_true rfl) d_Mo_run_40 (fun σ1 H locs e1 S => ?_)
        have hq := hq.trans (ap1_eq e1)
        have hok := ok_ap1 e1 hok
        refine lv_iinc (k := 2) (v := (9 : Int32)) hx hb d_Mo_run_43 hl rfl (by first | rfl | decide) (by decide) rfl (fun ls hl => ?_)
        refine lv_goto (tgt := 27) hx hb d_Mo_run_46 rfl ?_
        exact B_Mo_run_27_9 _ _ _ _ _ hok (lv_sub hl [1, 2, 0] rfl) S hq
  have B_Mo_run_27_7 : ∀ (v1 : Int32) (σ : nS) (H : Heap) (locs : List Loc) (ls : Array Slot), (o_Mo_run_27_7 v1 σ) → lv_has ls 3 [(0, .ref (a 0)), (1, .int v1), (2, .int (7 : Int32))] → St D (wM cI cZ a) A s σ H locs → F = s_Mo_run_27_7 v1 σ → W p l e ({ frames := 8, cells := 0, slots := 0, locals := 183 } : Room) s m args below meth c H locs 0 0 Q (F0 m 27 ls []) := by
    intro v1 σ H locs ls hok hl S hq
    refine lv_iload_n hx hb d_Mo_run_27 rfl (lv_at hl 2 rfl) ?_
    refine lv_iload_n hx hb d_Mo_run_28 rfl (lv_at hl 1 rfl) ?_
    refine lv_icmp_ge (tgt := 49) hx hb d_Mo_run_29 rfl (fun h29 => ?_) (fun h29 => ?_)
    · have hq := hq.trans (if_pos h29)
      have hok := ok_pos h29 hok
      exact B_Mo_run_49_7 _ _ _ _ hok (lv_sub hl [2] rfl) S hq
    · have hq := hq.trans (if_neg h29)
      have hok := ok_neg h29 hok
      refine lv_aload_n hx hb d_Mo_run_32 rfl (lv_at hl 0 rfl) ?_
      refine g_Mo_99 hx hb hts hown hK S.1 d_Mo_run_33 ?_
      refine lv_if_ne (tgt := 49) hx hb d_Mo_run_36 rfl (fun h36 => ?_) (fun h36 => ?_)
      · have hq := hq.trans (if_neg h36)
        have hok := ok_neg h36 hok
        exact B_Mo_run_49_7 _ _ _ _ hok (lv_sub hl [2] rfl) S hq
      · have hq := hq.trans (if_pos h36)
        have hok := ok_pos h36 hok
        refine lv_aload_n hx hb d_Mo_run_39 rfl (lv_at hl 0 rfl) ?_
        obtain ⟨g19, hok⟩ := hok
        refine callVV X S hl (c_Mo_step _ g19) v_Mo_222 0 6 ⟨rfl, rfl⟩ (rk_dec (by decide)) rfl rfl (Nat.le_of_ble_eq_true rfl) d_Mo_run_40 (fun σ1 H locs e1 S => ?_)
        have hq := hq.trans (ap1_eq e1)
        have hok := ok_ap1 e1 hok
        refine lv_iinc (k := 2) (v := (8 : Int32)) hx hb d_Mo_run_43 hl rfl (by first | rfl | decide) (by decide) rfl (fun ls hl => ?_)
        refine lv_goto (tgt := 27) hx hb d_Mo_run_46 rfl ?_
        exact B_Mo_run_27_8 _ _ _ _ _ hok (lv_sub hl [1, 2, 0] rfl) S hq
  have B_Mo_run_27_6 : ∀ (v1 : Int32) (σ : nS) (H : Heap) (locs : List Loc) (ls : Array Slot), (o_Mo_run_27_6 v1 σ) → lv_has ls 3 [(0, .ref (a 0)), (1, .int v1), (2, .int (6 : Int32))] → St D (wM cI cZ a) A s σ H locs → F = s_Mo_run_27_6 v1 σ → W p l e ({ frames := 8, cells := 0, slots := 0, locals := 183 } : Room) s m args below meth c H locs 0 0 Q (F0 m 27 ls []) := by
    intro v1 σ H locs ls hok hl S hq
    refine lv_iload_n hx hb d_Mo_run_27 rfl (lv_at hl 2 rfl) ?_
    refine lv_iload_n hx hb d_Mo_run_28 rfl (lv_at hl 1 rfl) ?_
    refine lv_icmp_ge (tgt := 49) hx hb d_Mo_run_29 rfl (fun h29 => ?_) (fun h29 => ?_)
    · have hq := hq.trans (if_pos h29)
      have hok := ok_pos h29 hok
      exact B_Mo_run_49_6 _ _ _ _ hok (lv_sub hl [2] rfl) S hq
    · have hq := hq.trans (if_neg h29)
      have hok := ok_neg h29 hok
      refine lv_aload_n hx hb d_Mo_run_32 rfl (lv_at hl 0 rfl) ?_
      refine g_Mo_99 hx hb hts hown hK S.1 d_Mo_run_33 ?_
      refine lv_if_ne (tgt := 49) hx hb d_Mo_run_36 rfl (fun h36 => ?_) (fun h36 => ?_)
      · have hq := hq.trans (if_neg h36)
        have hok := ok_neg h36 hok
        exact B_Mo_run_49_6 _ _ _ _ hok (lv_sub hl [2] rfl) S hq
      · have hq := hq.trans (if_pos h36)
        have hok := ok_pos h36 hok
        refine lv_aload_n hx hb d_Mo_run_39 rfl (lv_at hl 0 rfl) ?_
        obtain ⟨g20, hok⟩ := hok
        refine callVV X S hl (c_Mo_step _ g20) v_Mo_222 0 6 ⟨rfl, rfl⟩ (rk_dec (by decide)) rfl rfl (Nat.le_of_ble_eq_true rfl) d_Mo_run_40 (fun σ1 H locs e1 S => ?_)
        have hq := hq.trans (ap1_eq e1)
        have hok := ok_ap1 e1 hok
        refine lv_iinc (k := 2) (v := (7 : Int32)) hx hb d_Mo_run_43 hl rfl (by first | rfl | decide) (by decide) rfl (fun ls hl => ?_)
        refine lv_goto (tgt := 27) hx hb d_Mo_run_46 rfl ?_
        exact B_Mo_run_27_7 _ _ _ _ _ hok (lv_sub hl [1, 2, 0] rfl) S hq
  have B_Mo_run_27_5 : ∀ (v1 : Int32) (σ : nS) (H : Heap) (locs : List Loc) (ls : Array Slot), (o_Mo_run_27_5 v1 σ) → lv_has ls 3 [(0, .ref (a 0)), (1, .int v1), (2, .int (5 : Int32))] → St D (wM cI cZ a) A s σ H locs → F = s_Mo_run_27_5 v1 σ → W p l e ({ frames := 8, cells := 0, slots := 0, locals := 183 } : Room) s m args below meth c H locs 0 0 Q (F0 m 27 ls []) := by
    intro v1 σ H locs ls hok hl S hq
    refine lv_iload_n hx hb d_Mo_run_27 rfl (lv_at hl 2 rfl) ?_
    refine lv_iload_n hx hb d_Mo_run_28 rfl (lv_at hl 1 rfl) ?_
    refine lv_icmp_ge (tgt := 49) hx hb d_Mo_run_29 rfl (fun h29 => ?_) (fun h29 => ?_)
    · have hq := hq.trans (if_pos h29)
      have hok := ok_pos h29 hok
      exact B_Mo_run_49_5 _ _ _ _ hok (lv_sub hl [2] rfl) S hq
    · have hq := hq.trans (if_neg h29)
      have hok := ok_neg h29 hok
      refine lv_aload_n hx hb d_Mo_run_32 rfl (lv_at hl 0 rfl) ?_
      refine g_Mo_99 hx hb hts hown hK S.1 d_Mo_run_33 ?_
      refine lv_if_ne (tgt := 49) hx hb d_Mo_run_36 rfl (fun h36 => ?_) (fun h36 => ?_)
      · have hq := hq.trans (if_neg h36)
        have hok := ok_neg h36 hok
        exact B_Mo_run_49_5 _ _ _ _ hok (lv_sub hl [2] rfl) S hq
      · have hq := hq.trans (if_pos h36)
        have hok := ok_pos h36 hok
        refine lv_aload_n hx hb d_Mo_run_39 rfl (lv_at hl 0 rfl) ?_
        obtain ⟨g21, hok⟩ := hok
        refine callVV X S hl (c_Mo_step _ g21) v_Mo_222 0 6 ⟨rfl, rfl⟩ (rk_dec (by decide)) rfl rfl (Nat.le_of_ble_eq_true rfl) d_Mo_run_40 (fun σ1 H locs e1 S => ?_)
        have hq := hq.trans (ap1_eq e1)
        have hok := ok_ap1 e1 hok
        refine lv_iinc (k := 2) (v := (6 : Int32)) hx hb d_Mo_run_43 hl rfl (by first | rfl | decide) (by decide) rfl (fun ls hl => ?_)
        refine lv_goto (tgt := 27) hx hb d_Mo_run_46 rfl ?_
        exact B_Mo_run_27_6 _ _ _ _ _ hok (lv_sub hl [1, 2, 0] rfl) S hq
  have B_Mo_run_27_4 : ∀ (v1 : Int32) (σ : nS) (H : Heap) (locs : List Loc) (ls : Array Slot), (o_Mo_run_27_4 v1 σ) → lv_has ls 3 [(0, .ref (a 0)), (1, .int v1), (2, .int (4 : Int32))] → St D (wM cI cZ a) A s σ H locs → F = s_Mo_run_27_4 v1 σ → W p l e ({ frames := 8, cells := 0, slots := 0, locals := 183 } : Room) s m args below meth c H locs 0 0 Q (F0 m 27 ls []) := by
    intro v1 σ H locs ls hok hl S hq
    refine lv_iload_n hx hb d_Mo_run_27 rfl (lv_at hl 2 rfl) ?_
    refine lv_iload_n hx hb d_Mo_run_28 rfl (lv_at hl 1 rfl) ?_
    refine lv_icmp_ge (tgt := 49) hx hb d_Mo_run_29 rfl (fun h29 => ?_) (fun h29 => ?_)
    · have hq := hq.trans (if_pos h29)
      have hok := ok_pos h29 hok
      exact B_Mo_run_49_4 _ _ _ _ hok (lv_sub hl [2] rfl) S hq
    · have hq := hq.trans (if_neg h29)
      have hok := ok_neg h29 hok
      refine lv_aload_n hx hb d_Mo_run_32 rfl (lv_at hl 0 rfl) ?_
      refine g_Mo_99 hx hb hts hown hK S.1 d_Mo_run_33 ?_
      refine lv_if_ne (tgt := 49) hx hb d_Mo_run_36 rfl (fun h36 => ?_) (fun h36 => ?_)
      · have hq := hq.trans (if_neg h36)
        have hok := ok_neg h36 hok
        exact B_Mo_run_49_4 _ _ _ _ hok (lv_sub hl [2] rfl) S hq
      · have hq := hq.trans (if_pos h36)
        have hok := ok_pos h36 hok
        refine lv_aload_n hx hb d_Mo_run_39 rfl (lv_at hl 0 rfl) ?_
        obtain ⟨g22, hok⟩ := hok
        refine callVV X S hl (c_Mo_step _ g22) v_Mo_222 0 6 ⟨rfl, rfl⟩ (rk_dec (by decide)) rfl rfl (Nat.le_of_ble_eq_true rfl) d_Mo_run_40 (fun σ1 H locs e1 S => ?_)
        have hq := hq.trans (ap1_eq e1)
        have hok := ok_ap1 e1 hok
        refine lv_iinc (k := 2) (v := (5 : Int32)) hx hb d_Mo_run_43 hl rfl (by first | rfl | decide) (by decide) rfl (fun ls hl => ?_)
        refine lv_goto (tgt := 27) hx hb d_Mo_run_46 rfl ?_
        exact B_Mo_run_27_5 _ _ _ _ _ hok (lv_sub hl [1, 2, 0] rfl) S hq
  have B_Mo_run_27_3 : ∀ (v1 : Int32) (σ : nS) (H : Heap) (locs : List Loc) (ls : Array Slot), (o_Mo_run_27_3 v1 σ) → lv_has ls 3 [(0, .ref (a 0)), (1, .int v1), (2, .int (3 : Int32))] → St D (wM cI cZ a) A s σ H locs → F = s_Mo_run_27_3 v1 σ → W p l e ({ frames := 8, cells := 0, slots := 0, locals := 183 } : Room) s m args below meth c H locs 0 0 Q (F0 m 27 ls []) := by
    intro v1 σ H locs ls hok hl S hq
    refine lv_iload_n hx hb d_Mo_run_27 rfl (lv_at hl 2 rfl) ?_
    refine lv_iload_n hx hb d_Mo_run_28 rfl (lv_at hl 1 rfl) ?_
    refine lv_icmp_ge (tgt := 49) hx hb d_Mo_run_29 rfl (fun h29 => ?_) (fun h29 => ?_)
    · have hq := hq.trans (if_pos h29)
      have hok := ok_pos h29 hok
      exact B_Mo_run_49_3 _ _ _ _ hok (lv_sub hl [2] rfl) S hq
    · have hq := hq.trans (if_neg h29)
      have hok := ok_neg h29 hok
      refine lv_aload_n hx hb d_Mo_run_32 rfl (lv_at hl 0 rfl) ?_
      refine g_Mo_99 hx hb hts hown hK S.1 d_Mo_run_33 ?_
      refine lv_if_ne (tgt := 49) hx hb d_Mo_run_36 rfl (fun h36 => ?_) (fun h36 => ?_)
      · have hq := hq.trans (if_neg h36)
        have hok := ok_neg h36 hok
        exact B_Mo_run_49_3 _ _ _ _ hok (lv_sub hl [2] rfl) S hq
      · have hq := hq.trans (if_pos h36)
        have hok := ok_pos h36 hok
        refine lv_aload_n hx hb d_Mo_run_39 rfl (lv_at hl 0 rfl) ?_
        obtain ⟨g23, hok⟩ := hok
        refine callVV X S hl (c_Mo_step _ g23) v_Mo_222 0 6 ⟨rfl, rfl⟩ (rk_dec (by decide)) rfl rfl (Nat.le_of_ble_eq_true rfl) d_Mo_run_40 (fun σ1 H locs e1 S => ?_)
        have hq := hq.trans (ap1_eq e1)
        have hok := ok_ap1 e1 hok
        refine lv_iinc (k := 2) (v := (4 : Int32)) hx hb d_Mo_run_43 hl rfl (by first | rfl | decide) (by decide) rfl (fun ls hl => ?_)
        refine lv_goto (tgt := 27) hx hb d_Mo_run_46 rfl ?_
        exact B_Mo_run_27_4 _ _ _ _ _ hok (lv_sub hl [1, 2, 0] rfl) S hq
  have B_Mo_run_27_2 : ∀ (v1 : Int32) (σ : nS) (H : Heap) (locs : List Loc) (ls : Array Slot), (o_Mo_run_27_2 v1 σ) → lv_has ls 3 [(0, .ref (a 0)), (1, .int v1), (2, .int (2 : Int32))] → St D (wM cI cZ a) A s σ H locs → F = s_Mo_run_27_2 v1 σ → W p l e ({ frames := 8, cells := 0, slots := 0, locals := 183 } : Room) s m args below meth c H locs 0 0 Q (F0 m 27 ls []) := by
    intro v1 σ H locs ls hok hl S hq
    refine lv_iload_n hx hb d_Mo_run_27 rfl (lv_at hl 2 rfl) ?_
    refine lv_iload_n hx hb d_Mo_run_28 rfl (lv_at hl 1 rfl) ?_
    refine lv_icmp_ge (tgt := 49) hx hb d_Mo_run_29 rfl (fun h29 => ?_) (fun h29 => ?_)
    · have hq := hq.trans (if_pos h29)
      have hok := ok_pos h29 hok
      exact B_Mo_run_49_2 _ _ _ _ hok (lv_sub hl [2] rfl) S hq
    · have hq := hq.trans (if_neg h29)
      have hok := ok_neg h29 hok
      refine lv_aload_n hx hb d_Mo_run_32 rfl (lv_at hl 0 rfl) ?_
      refine g_Mo_99 hx hb hts hown hK S.1 d_Mo_run_33 ?_
      refine lv_if_ne (tgt := 49) hx hb d_Mo_run_36 rfl (fun h36 => ?_) (fun h36 => ?_)
      · have hq := hq.trans (if_neg h36)
        have hok := ok_neg h36 hok
        exact B_Mo_run_49_2 _ _ _ _ hok (lv_sub hl [2] rfl) S hq
      · have hq := hq.trans (if_pos h36)
        have hok := ok_pos h36 hok
        refine lv_aload_n hx hb d_Mo_run_39 rfl (lv_at hl 0 rfl) ?_
        obtain ⟨g24, hok⟩ := hok
        refine callVV X S hl (c_Mo_step _ g24) v_Mo_222 0 6 ⟨rfl, rfl⟩ (rk_dec (by decide)) rfl rfl (Nat.le_of_ble_eq_true rfl) d_Mo_run_40 (fun σ1 H locs e1 S => ?_)
        have hq := hq.trans (ap1_eq e1)
        have hok := ok_ap1 e1 hok
        refine lv_iinc (k := 2) (v := (3 : Int32)) hx hb d_Mo_run_43 hl rfl (by first | rfl | decide) (by decide) rfl (fun ls hl => ?_)
        refine lv_goto (tgt := 27) hx hb d_Mo_run_46 rfl ?_
        exact B_Mo_run_27_3 _ _ _ _ _ hok (lv_sub hl [1, 2, 0] rfl) S hq
  have B_Mo_run_27_1 : ∀ (v1 : Int32) (σ : nS) (H : Heap) (locs : List Loc) (ls : Array Slot), (o_Mo_run_27_1 v1 σ) → lv_has ls 3 [(0, .ref (a 0)), (1, .int v1), (2, .int (1 : Int32))] → St D (wM cI cZ a) A s σ H locs → F = s_Mo_run_27_1 v1 σ → W p l e ({ frames := 8, cells := 0, slots := 0, locals := 183 } : Room) s m args below meth c H locs 0 0 Q (F0 m 27 ls []) := by
    intro v1 σ H locs ls hok hl S hq
    refine lv_iload_n hx hb d_Mo_run_27 rfl (lv_at hl 2 rfl) ?_
    refine lv_iload_n hx hb d_Mo_run_28 rfl (lv_at hl 1 rfl) ?_
    refine lv_icmp_ge (tgt := 49) hx hb d_Mo_run_29 rfl (fun h29 => ?_) (fun h29 => ?_)
    · have hq := hq.trans (if_pos h29)
      have hok := ok_pos h29 hok
      exact B_Mo_run_49_1 _ _ _ _ hok (lv_sub hl [2] rfl) S hq
    · have hq := hq.trans (if_neg h29)
      have hok := ok_neg h29 hok
      refine lv_aload_n hx hb d_Mo_run_32 rfl (lv_at hl 0 rfl) ?_
      refine g_Mo_99 hx hb hts hown hK S.1 d_Mo_run_33 ?_
      refine lv_if_ne (tgt := 49) hx hb d_Mo_run_36 rfl (fun h36 => ?_) (fun h36 => ?_)
      · have hq := hq.trans (if_neg h36)
        have hok := ok_neg h36 hok
        exact B_Mo_run_49_1 _ _ _ _ hok (lv_sub hl [2] rfl) S hq
      · have hq := hq.trans (if_pos h36)
        have hok := ok_pos h36 hok
        refine lv_aload_n hx hb d_Mo_run_39 rfl (lv_at hl 0 rfl) ?_
        obtain ⟨g25, hok⟩ := hok
        refine callVV X S hl (c_Mo_step _ g25) v_Mo_222 0 6 ⟨rfl, rfl⟩ (rk_dec (by decide)) rfl rfl (Nat.le_of_ble_eq_true rfl) d_Mo_run_40 (fun σ1 H locs e1 S => ?_)
        have hq := hq.trans (ap1_eq e1)
        have hok := ok_ap1 e1 hok
        refine lv_iinc (k := 2) (v := (2 : Int32)) hx hb d_Mo_run_43 hl rfl (by first | rfl | decide) (by decide) rfl (fun ls hl => ?_)
        refine lv_goto (tgt := 27) hx hb d_Mo_run_46 rfl ?_
        exact B_Mo_run_27_2 _ _ _ _ _ hok (lv_sub hl [1, 2, 0] rfl) S hq
  have B_Mo_run_27_0 : ∀ (v1 : Int32) (σ : nS) (H : Heap) (locs : List Loc) (ls : Array Slot), (o_Mo_run_27_0 v1 σ) → lv_has ls 3 [(0, .ref (a 0)), (1, .int v1), (2, .int (0 : Int32))] → St D (wM cI cZ a) A s σ H locs → F = s_Mo_run_27_0 v1 σ → W p l e ({ frames := 8, cells := 0, slots := 0, locals := 183 } : Room) s m args below meth c H locs 0 0 Q (F0 m 27 ls []) := by
    intro v1 σ H locs ls hok hl S hq
    refine lv_iload_n hx hb d_Mo_run_27 rfl (lv_at hl 2 rfl) ?_
    refine lv_iload_n hx hb d_Mo_run_28 rfl (lv_at hl 1 rfl) ?_
    refine lv_icmp_ge (tgt := 49) hx hb d_Mo_run_29 rfl (fun h29 => ?_) (fun h29 => ?_)
    · have hq := hq.trans (if_pos h29)
      have hok := ok_pos h29 hok
      exact B_Mo_run_49_0 _ _ _ _ hok (lv_sub hl [2] rfl) S hq
    · have hq := hq.trans (if_neg h29)
      have hok := ok_neg h29 hok
      refine lv_aload_n hx hb d_Mo_run_32 rfl (lv_at hl 0 rfl) ?_
      refine g_Mo_99 hx hb hts hown hK S.1 d_Mo_run_33 ?_
      refine lv_if_ne (tgt := 49) hx hb d_Mo_run_36 rfl (fun h36 => ?_) (fun h36 => ?_)
      · have hq := hq.trans (if_neg h36)
        have hok := ok_neg h36 hok
        exact B_Mo_run_49_0 _ _ _ _ hok (lv_sub hl [2] rfl) S hq
      · have hq := hq.trans (if_pos h36)
        have hok := ok_pos h36 hok
        refine lv_aload_n hx hb d_Mo_run_39 rfl (lv_at hl 0 rfl) ?_
        obtain ⟨g26, hok⟩ := hok
        refine callVV X S hl (c_Mo_step _ g26) v_Mo_222 0 6 ⟨rfl, rfl⟩ (rk_dec (by decide)) rfl rfl (Nat.le_of_ble_eq_true rfl) d_Mo_run_40 (fun σ1 H locs e1 S => ?_)
        have hq := hq.trans (ap1_eq e1)
        have hok := ok_ap1 e1 hok
        refine lv_iinc (k := 2) (v := (1 : Int32)) hx hb d_Mo_run_43 hl rfl (by first | rfl | decide) (by decide) rfl (fun ls hl => ?_)
        refine lv_goto (tgt := 27) hx hb d_Mo_run_46 rfl ?_
        exact B_Mo_run_27_1 _ _ _ _ _ hok (lv_sub hl [1, 2, 0] rfl) S hq
  have B_Mo_run_17 : ∀ (v1 : Int32) (k1 : Bool) (σ : nS) (H : Heap) (locs : List Loc) (ls : Array Slot), (o_Mo_run_17 v1 k1 σ) → lv_has ls 3 [(0, .ref (a 0)), (1, .int v1)] → St D (wM cI cZ a) A s σ H locs → F = s_Mo_run_17 v1 k1 σ → W p l e ({ frames := 8, cells := 0, slots := 0, locals := 183 } : Room) s m args below meth c H locs 0 0 Q (F0 m 17 ls [.int (bI k1), .ref (a 0)]) := by
    intro v1 k1 σ H locs ls hok hl S hq
    refine callVZ X S hl (c_Mo_fails k1 _) v_Mo_218 0 6 ⟨rfl, rfl⟩ (rk_dec (by decide)) rfl rfl (Nat.le_of_ble_eq_true rfl) d_Mo_run_17 (fun r1 σ1 H locs e1 S => ?_)
    have hq := hq.trans (ap2_eq e1)
    have hok := ok_ap2 e1 hok
    refine r_ifeqZ (tgt := 25) hx hb d_Mo_run_20 rfl (fun h20 => ?_) (fun h20 => ?_)
    · have hq := hq.trans (if_neg h20)
      have hok := ok_neg h20 hok
      refine lv_iconst (v := 0) hx hb d_Mo_run_25 (by decide) ?_
      refine lv_istore_n hx hb d_Mo_run_26 rfl hl (by decide) rfl (fun ls hl => ?_)
      exact B_Mo_run_27_0 _ _ _ _ _ hok (lv_sub hl [1, 2, 0] rfl) S hq
    · have hq := hq.trans (if_pos h20)
      have hok := ok_pos h20 hok
      refine lv_iconst (v := 0) hx hb d_Mo_run_23 (by decide) ?_
      exact ret _ _ _ _ _ _ S hq d_Mo_run_24
  have B_Mo_run_12 : ∀ (v1 : Int32) (σ : nS) (H : Heap) (locs : List Loc) (ls : Array Slot), (o_Mo_run_12 v1 σ) → lv_has ls 3 [(0, .ref (a 0)), (1, .int v1)] → St D (wM cI cZ a) A s σ H locs → F = s_Mo_run_12 v1 σ → W p l e ({ frames := 8, cells := 0, slots := 0, locals := 183 } : Room) s m args below meth c H locs 0 0 Q (F0 m 12 ls [.ref (a 0)]) := by
    intro v1 σ H locs ls hok hl S hq
    refine lv_iconst (v := 1) hx hb d_Mo_run_12 (by decide) ?_
    refine lv_goto (tgt := 17) hx hb d_Mo_run_13 rfl ?_
    exact B_Mo_run_17 _ true _ _ _ _ hok (lv_sub hl [0, 1] rfl) S hq
  refine lv_aload_n hx hb d_Mo_run_0 rfl (lv_at hl 0 rfl) ?_
  refine lv_iload_n hx hb d_Mo_run_1 rfl (lv_at hl 1 rfl) ?_
  refine lv_iconst (v := 1) hx hb d_Mo_run_2 (by decide) ?_
  refine lv_icmp_lt (tgt := 12) hx hb d_Mo_run_3 rfl (fun h3 => ?_) (fun h3 => ?_)
  · have hq := hq.trans (if_pos h3)
    have hok := ok_pos h3 hok
    exact B_Mo_run_12 _ _ _ _ _ hok (lv_sub hl [0, 1] rfl) S hq
  · have hq := hq.trans (if_neg h3)
    have hok := ok_neg h3 hok
    refine lv_iload_n hx hb d_Mo_run_6 rfl (lv_at hl 1 rfl) ?_
    refine lv_bipush (v := 25) hx hb d_Mo_run_7 (by decide) ?_
    refine lv_icmp_le (tgt := 16) hx hb d_Mo_run_9 rfl (fun h9 => ?_) (fun h9 => ?_)
    · have hq := hq.trans (if_pos h9)
      have hok := ok_pos h9 hok
      refine lv_iconst (v := 0) hx hb d_Mo_run_16 (by decide) ?_
      exact B_Mo_run_17 _ false _ _ _ _ hok (lv_sub hl [0, 1] rfl) S hq
    · have hq := hq.trans (if_neg h9)
      have hok := ok_neg h9 hok
      exact B_Mo_run_12 _ _ _ _ _ hok (lv_sub hl [0, 1] rfl) S hq
end CT
