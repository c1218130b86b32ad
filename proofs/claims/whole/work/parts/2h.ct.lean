section CT
variable {l : Launch} {D : va_G} {cI cZ : ClassId} {a : Nat → Nat} {t : Nat}
set_option maxHeartbeats 4000000 in
set_option maxRecDepth 100000 in
theorem c_Mo_due (σ : nS) : CtI l D cI cZ (wM cI cZ a) exM y_Mo_due b_Mo_due 3 { frames := 2, cells := 0, slots := 0, locals := 43 } [.ref (a 0)] σ (s_Mo_due σ, σ) := by
  generalize hF : s_Mo_due σ = F
  refine metIp exM_ok (by decide) (Nat.le_of_ble_eq_true rfl) (fun p e s m args below meth c A Q ls X S hl ret => ?_)
  have hq := hF.symm
  obtain ⟨hx, hb, hml, hown, hts, hK, hA, hE, hlk, hEo⟩ := id X
  have hl : lv_has ls 3 [(0, .ref (a 0))] := hl
  have B_Mo_due_80 : ∀ (H : Heap) (locs : List Loc) (ls : Array Slot), lv_has ls 3 [] → St D (wM cI cZ a) A s σ H locs → F = s_Mo_due_80 σ → W p l e ({ frames := 2, cells := 0, slots := 0, locals := 43 } : Room) s m args below meth c H locs 0 0 Q (F0 m 80 ls []) := by
    intro H locs ls hl S hq
    refine lv_iconst (v := 0) hx hb d_Mo_due_80 (by decide) ?_
    exact ret _ _ _ _ _ S hq d_Mo_due_81
  have B_Mo_due_5_1 : ∀ (v1 : Int32) (H : Heap) (locs : List Loc) (ls : Array Slot), (vp_in v1 16) → lv_has ls 3 [(0, .ref (a 0)), (1, .int v1), (2, .int (1 : Int32))] → St D (wM cI cZ a) A s σ H locs → F = s_Mo_due_5_1 v1 σ → W p l e ({ frames := 2, cells := 0, slots := 0, locals := 43 } : Room) s m args below meth c H locs 0 0 Q (F0 m 5 ls []) := by
    intro v1 H locs ls qv1_16 hl S hq
    refine lv_iload_n hx hb d_Mo_due_5 rfl (lv_at hl 2 rfl) ?_
    refine lv_iconst (v := 1) hx hb d_Mo_due_6 (by decide) ?_
    refine lv_icmp_le (tgt := 55) hx hb d_Mo_due_7 rfl (fun _ => ?_) (fun h9 => absurd (by decide) h9)
    refine lv_iload_n hx hb d_Mo_due_55 rfl (lv_at hl 1 rfl) ?_
    refine lv_if_le (tgt := 80) hx hb d_Mo_due_56 rfl (fun h56 => ?_) (fun h56 => ?_)
    · have hq := hq.trans (if_pos h56)
      exact B_Mo_due_80 _ _ _ (lv_sub hl [] rfl) S hq
    · have hq := hq.trans (if_neg h56)
      refine lv_aload_n hx hb d_Mo_due_59 rfl (lv_at hl 0 rfl) ?_
      refine lv_aload_n hx hb d_Mo_due_60 rfl (lv_at hl 0 rfl) ?_
      refine g_Mo_16 hx hb hts hown hK S.1 d_Mo_due_61 ?_
      refine lv_iload_n hx hb d_Mo_due_64 rfl (lv_at hl 1 rfl) ?_
      refine ld_M_3 (k := (v1).toNatClampNeg) hx hb hK S.1 qv1_16 rfl d_Mo_due_65 ?_
      refine callVIp X S hl (c_Mo_group (σ 4 (v1).toNatClampNeg) _) v_Mo_56 0 6 ⟨rfl, rfl⟩ (rk_dec (by decide)) rfl rfl (Nat.le_of_ble_eq_true rfl) d_Mo_due_66 (fun H locs S => ?_)
      refine lv_aload_n hx hb d_Mo_due_69 rfl (lv_at hl 0 rfl) ?_
      refine callVIp X S hl (c_Mo_level _) v_Mo_70 0 6 ⟨rfl, rfl⟩ (rk_dec (by decide)) rfl rfl (Nat.le_of_ble_eq_true rfl) d_Mo_due_70 (fun H locs S => ?_)
      refine lv_icmp_ge (tgt := 80) hx hb d_Mo_due_73 rfl (fun h73 => ?_) (fun h73 => ?_)
      · have hq := hq.trans (if_pos h73)
        exact B_Mo_due_80 _ _ _ (lv_sub hl [] rfl) S hq
      · have hq := hq.trans (if_neg h73)
        refine lv_iload_n hx hb d_Mo_due_76 rfl (lv_at hl 1 rfl) ?_
        refine lv_goto (tgt := 81) hx hb d_Mo_due_77 rfl ?_
        exact ret _ _ _ _ _ S hq d_Mo_due_81
  have B_Mo_due_49_2 : ∀ (v1 : Int32) (H : Heap) (locs : List Loc) (ls : Array Slot), (vp_in v1 16) → lv_has ls 3 [(0, .ref (a 0)), (1, .int v1), (2, .int (2 : Int32))] → St D (wM cI cZ a) A s σ H locs → F = s_Mo_due_49_2 v1 σ → W p l e ({ frames := 2, cells := 0, slots := 0, locals := 43 } : Room) s m args below meth c H locs 0 0 Q (F0 m 49 ls []) := by
    intro v1 H locs ls qv1_16 hl S hq
    refine lv_iinc (k := 2) (v := (1 : Int32)) hx hb d_Mo_due_49 hl rfl (by first | rfl | decide) (by decide) rfl (fun ls hl => ?_)
    refine lv_goto (tgt := 5) hx hb d_Mo_due_52 rfl ?_
    exact B_Mo_due_5_1 _ _ _ _ qv1_16 (lv_sub hl [1, 2, 0] rfl) S hq
  have B_Mo_due_47_2 : ∀ (H : Heap) (locs : List Loc) (ls : Array Slot), lv_has ls 3 [(0, .ref (a 0)), (2, .int (2 : Int32))] → St D (wM cI cZ a) A s σ H locs → F = s_Mo_due_47_2 σ → W p l e ({ frames := 2, cells := 0, slots := 0, locals := 43 } : Room) s m args below meth c H locs 0 0 Q (F0 m 47 ls []) := by
    intro H locs ls hl S hq
    refine lv_iload_n hx hb d_Mo_due_47 rfl (lv_at hl 1 rfl) ?_
    refine lv_istore_n hx hb d_Mo_due_48 rfl hl (by decide) rfl (fun ls hl => ?_)
    exact B_Mo_due_49_2 _ _ _ _ (vin_dec (by decide)) (lv_sub hl [1, 0, 2] rfl) S hq
  have B_Mo_due_5_2 : ∀ (v1 : Int32) (H : Heap) (locs : List Loc) (ls : Array Slot), (vp_in v1 16) → lv_has ls 3 [(0, .ref (a 0)), (1, .int v1), (2, .int (2 : Int32))] → St D (wM cI cZ a) A s σ H locs → F = s_Mo_due_5_2 v1 σ → W p l e ({ frames := 2, cells := 0, slots := 0, locals := 43 } : Room) s m args below meth c H locs 0 0 Q (F0 m 5 ls []) := by
    intro v1 H locs ls qv1_16 hl S hq
    refine lv_iload_n hx hb d_Mo_due_5 rfl (lv_at hl 2 rfl) ?_
    refine lv_iconst (v := 1) hx hb d_Mo_due_6 (by decide) ?_
    refine lv_icmp_le (tgt := 55) hx hb d_Mo_due_7 rfl (fun h9 => absurd h9 (by decide)) (fun _ => ?_)
    refine lv_aload_n hx hb d_Mo_due_10 rfl (lv_at hl 0 rfl) ?_
    refine g_Mo_23 hx hb hts hown hK S.1 d_Mo_due_11 ?_
    refine lv_iload_n hx hb d_Mo_due_14 rfl (lv_at hl 2 rfl) ?_
    refine ld_M_5 (k := 2) hx hb hK S.1 (vin_dec (by decide)) (by decide) d_Mo_due_15 ?_
    refine lv_if_eq (tgt := 49) hx hb d_Mo_due_16 rfl (fun h16 => ?_) (fun h16 => ?_)
    · have hq := hq.trans (if_pos h16)
      exact B_Mo_due_49_2 _ _ _ _ qv1_16 (lv_sub hl [0, 1, 2] rfl) S hq
    · have hq := hq.trans (if_neg h16)
      refine lv_aload_n hx hb d_Mo_due_19 rfl (lv_at hl 0 rfl) ?_
      refine g_Mo_19 hx hb hts hown hK S.1 d_Mo_due_20 ?_
      refine lv_iload_n hx hb d_Mo_due_23 rfl (lv_at hl 2 rfl) ?_
      refine ld_M_4 (k := 2) hx hb hK S.1 (vin_dec (by decide)) (by decide) d_Mo_due_24 ?_
      refine lv_if_eq (tgt := 49) hx hb d_Mo_due_25 rfl (fun h25 => ?_) (fun h25 => ?_)
      · have hq := hq.trans (if_pos h25)
        exact B_Mo_due_49_2 _ _ _ _ qv1_16 (lv_sub hl [0, 1, 2] rfl) S hq
      · have hq := hq.trans (if_neg h25)
        refine lv_iload_n hx hb d_Mo_due_28 rfl (lv_at hl 1 rfl) ?_
        refine lv_if_eq (tgt := 47) hx hb d_Mo_due_29 rfl (fun h29 => ?_) (fun h29 => ?_)
        · have hq := hq.trans (if_pos h29)
          exact B_Mo_due_47_2 _ _ _ (lv_sub hl [0, 2] rfl) S hq
        · have hq := hq.trans (if_neg h29)
          refine lv_aload_n hx hb d_Mo_due_32 rfl (lv_at hl 0 rfl) ?_
          refine g_Mo_16 hx hb hts hown hK S.1 d_Mo_due_33 ?_
          refine lv_iload_n hx hb d_Mo_due_36 rfl (lv_at hl 2 rfl) ?_
          refine ld_M_3 (k := 2) hx hb hK S.1 (vin_dec (by decide)) (by decide) d_Mo_due_37 ?_
          refine lv_aload_n hx hb d_Mo_due_38 rfl (lv_at hl 0 rfl) ?_
          refine g_Mo_16 hx hb hts hown hK S.1 d_Mo_due_39 ?_
          refine lv_iload_n hx hb d_Mo_due_42 rfl (lv_at hl 1 rfl) ?_
          refine ld_M_3 (k := (v1).toNatClampNeg) hx hb hK S.1 qv1_16 rfl d_Mo_due_43 ?_
          refine lv_icmp_gt (tgt := 49) hx hb d_Mo_due_44 rfl (fun h44 => ?_) (fun h44 => ?_)
          · have hq := hq.trans (if_pos h44)
            exact B_Mo_due_49_2 _ _ _ _ qv1_16 (lv_sub hl [0, 1, 2] rfl) S hq
          · have hq := hq.trans (if_neg h44)
            exact B_Mo_due_47_2 _ _ _ (lv_sub hl [0, 2] rfl) S hq
  have B_Mo_due_49_3 : ∀ (v1 : Int32) (H : Heap) (locs : List Loc) (ls : Array Slot), (vp_in v1 16) → lv_has ls 3 [(0, .ref (a 0)), (1, .int v1), (2, .int (3 : Int32))] → St D (wM cI cZ a) A s σ H locs → F = s_Mo_due_49_3 v1 σ → W p l e ({ frames := 2, cells := 0, slots := 0, locals := 43 } : Room) s m args below meth c H locs 0 0 Q (F0 m 49 ls []) := by
    intro v1 H locs ls qv1_16 hl S hq
    refine lv_iinc (k := 2) (v := (2 : Int32)) hx hb d_Mo_due_49 hl rfl (by first | rfl | decide) (by decide) rfl (fun ls hl => ?_)
    refine lv_goto (tgt := 5) hx hb d_Mo_due_52 rfl ?_
    exact B_Mo_due_5_2 _ _ _ _ qv1_16 (lv_sub hl [1, 2, 0] rfl) S hq
  have B_Mo_due_47_3 : ∀ (H : Heap) (locs : List Loc) (ls : Array Slot), lv_has ls 3 [(0, .ref (a 0)), (2, .int (3 : Int32))] → St D (wM cI cZ a) A s σ H locs → F = s_Mo_due_47_3 σ → W p l e ({ frames := 2, cells := 0, slots := 0, locals := 43 } : Room) s m args below meth c H locs 0 0 Q (F0 m 47 ls []) := by
    intro H locs ls hl S hq
    refine lv_iload_n hx hb d_Mo_due_47 rfl (lv_at hl 1 rfl) ?_
    refine lv_istore_n hx hb d_Mo_due_48 rfl hl (by decide) rfl (fun ls hl => ?_)
    exact B_Mo_due_49_3 _ _ _ _ (vin_dec (by decide)) (lv_sub hl [1, 0, 2] rfl) S hq
  have B_Mo_due_5_3 : ∀ (v1 : Int32) (H : Heap) (locs : List Loc) (ls : Array Slot), (vp_in v1 16) → lv_has ls 3 [(0, .ref (a 0)), (1, .int v1), (2, .int (3 : Int32))] → St D (wM cI cZ a) A s σ H locs → F = s_Mo_due_5_3 v1 σ → W p l e ({ frames := 2, cells := 0, slots := 0, locals := 43 } : Room) s m args below meth c H locs 0 0 Q (F0 m 5 ls []) := by
    intro v1 H locs ls qv1_16 hl S hq
    refine lv_iload_n hx hb d_Mo_due_5 rfl (lv_at hl 2 rfl) ?_
    refine lv_iconst (v := 1) hx hb d_Mo_due_6 (by decide) ?_
    refine lv_icmp_le (tgt := 55) hx hb d_Mo_due_7 rfl (fun h9 => absurd h9 (by decide)) (fun _ => ?_)
    refine lv_aload_n hx hb d_Mo_due_10 rfl (lv_at hl 0 rfl) ?_
    refine g_Mo_23 hx hb hts hown hK S.1 d_Mo_due_11 ?_
    refine lv_iload_n hx hb d_Mo_due_14 rfl (lv_at hl 2 rfl) ?_
    refine ld_M_5 (k := 3) hx hb hK S.1 (vin_dec (by decide)) (by decide) d_Mo_due_15 ?_
    refine lv_if_eq (tgt := 49) hx hb d_Mo_due_16 rfl (fun h16 => ?_) (fun h16 => ?_)
    · have hq := hq.trans (if_pos h16)
      exact B_Mo_due_49_3 _ _ _ _ qv1_16 (lv_sub hl [0, 1, 2] rfl) S hq
    · have hq := hq.trans (if_neg h16)
      refine lv_aload_n hx hb d_Mo_due_19 rfl (lv_at hl 0 rfl) ?_
      refine g_Mo_19 hx hb hts hown hK S.1 d_Mo_due_20 ?_
      refine lv_iload_n hx hb d_Mo_due_23 rfl (lv_at hl 2 rfl) ?_
      refine ld_M_4 (k := 3) hx hb hK S.1 (vin_dec (by decide)) (by decide) d_Mo_due_24 ?_
      refine lv_if_eq (tgt := 49) hx hb d_Mo_due_25 rfl (fun h25 => ?_) (fun h25 => ?_)
      · have hq := hq.trans (if_pos h25)
        exact B_Mo_due_49_3 _ _ _ _ qv1_16 (lv_sub hl [0, 1, 2] rfl) S hq
      · have hq := hq.trans (if_neg h25)
        refine lv_iload_n hx hb d_Mo_due_28 rfl (lv_at hl 1 rfl) ?_
        refine lv_if_eq (tgt := 47) hx hb d_Mo_due_29 rfl (fun h29 => ?_) (fun h29 => ?_)
        · have hq := hq.trans (if_pos h29)
          exact B_Mo_due_47_3 _ _ _ (lv_sub hl [0, 2] rfl) S hq
        · have hq := hq.trans (if_neg h29)
          refine lv_aload_n hx hb d_Mo_due_32 rfl (lv_at hl 0 rfl) ?_
          refine g_Mo_16 hx hb hts hown hK S.1 d_Mo_due_33 ?_
          refine lv_iload_n hx hb d_Mo_due_36 rfl (lv_at hl 2 rfl) ?_
          refine ld_M_3 (k := 3) hx hb hK S.1 (vin_dec (by decide)) (by decide) d_Mo_due_37 ?_
          refine lv_aload_n hx hb d_Mo_due_38 rfl (lv_at hl 0 rfl) ?_
          refine g_Mo_16 hx hb hts hown hK S.1 d_Mo_due_39 ?_
          refine lv_iload_n hx hb d_Mo_due_42 rfl (lv_at hl 1 rfl) ?_
          refine ld_M_3 (k := (v1).toNatClampNeg) hx hb hK S.1 qv1_16 rfl d_Mo_due_43 ?_
          refine lv_icmp_gt (tgt := 49) hx hb d_Mo_due_44 rfl (fun h44 => ?_) (fun h44 => ?_)
          · have hq := hq.trans (if_pos h44)
            exact B_Mo_due_49_3 _ _ _ _ qv1_16 (lv_sub hl [0, 1, 2] rfl) S hq
          · have hq := hq.trans (if_neg h44)
            exact B_Mo_due_47_3 _ _ _ (lv_sub hl [0, 2] rfl) S hq
  have B_Mo_due_49_4 : ∀ (v1 : Int32) (H : Heap) (locs : List Loc) (ls : Array Slot), (vp_in v1 16) → lv_has ls 3 [(0, .ref (a 0)), (1, .int v1), (2, .int (4 : Int32))] → St D (wM cI cZ a) A s σ H locs → F = s_Mo_due_49_4 v1 σ → W p l e ({ frames := 2, cells := 0, slots := 0, locals := 43 } : Room) s m args below meth c H locs 0 0 Q (F0 m 49 ls []) := by
    intro v1 H locs ls qv1_16 hl S hq
    refine lv_iinc (k := 2) (v := (3 : Int32)) hx hb d_Mo_due_49 hl rfl (by first | rfl | decide) (by decide) rfl (fun ls hl => ?_)
    refine lv_goto (tgt := 5) hx hb d_Mo_due_52 rfl ?_
    exact B_Mo_due_5_3 _ _ _ _ qv1_16 (lv_sub hl [1, 2, 0] rfl) S hq
  have B_Mo_due_47_4 : ∀ (H : Heap) (locs : List Loc) (ls : Array Slot), lv_has ls 3 [(0, .ref (a 0)), (2, .int (4 : Int32))] → St D (wM cI cZ a) A s σ H locs → F = s_Mo_due_47_4 σ → W p l e ({ frames := 2, cells := 0, slots := 0, locals := 43 } : Room) s m args below meth c H locs 0 0 Q (F0 m 47 ls []) := by
    intro H locs ls hl S hq
    refine lv_iload_n hx hb d_Mo_due_47 rfl (lv_at hl 1 rfl) ?_
    refine lv_istore_n hx hb d_Mo_due_48 rfl hl (by decide) rfl (fun ls hl => ?_)
    exact B_Mo_due_49_4 _ _ _ _ (vin_dec (by decide)) (lv_sub hl [1, 0, 2] rfl) S hq
  have B_Mo_due_5_4 : ∀ (v1 : Int32) (H : Heap) (locs : List Loc) (ls : Array Slot), (vp_in v1 16) → lv_has ls 3 [(0, .ref (a 0)), (1, .int v1), (2, .int (4 : Int32))] → St D (wM cI cZ a) A s σ H locs → F = s_Mo_due_5_4 v1 σ → W p l e ({ frames := 2, cells := 0, slots := 0, locals := 43 } : Room) s m args below meth c H locs 0 0 Q (F0 m 5 ls []) := by
    intro v1 H locs ls qv1_16 hl S hq
    refine lv_iload_n hx hb d_Mo_due_5 rfl (lv_at hl 2 rfl) ?_
    refine lv_iconst (v := 1) hx hb d_Mo_due_6 (by decide) ?_
    refine lv_icmp_le (tgt := 55) hx hb d_Mo_due_7 rfl (fun h9 => absurd h9 (by decide)) (fun _ => ?_)
    refine lv_aload_n hx hb d_Mo_due_10 rfl (lv_at hl 0 rfl) ?_
    refine g_Mo_23 hx hb hts hown hK S.1 d_Mo_due_11 ?_
    refine lv_iload_n hx hb d_Mo_due_14 rfl (lv_at hl 2 rfl) ?_
    refine ld_M_5 (k := 4) hx hb hK S.1 (vin_dec (by decide)) (by decide) d_Mo_due_15 ?_
    refine lv_if_eq (tgt := 49) hx hb d_Mo_due_16 rfl (fun h16 => ?_) (fun h16 => ?_)
    · have hq := hq.trans (if_pos h16)
      exact B_Mo_due_49_4 _ _ _ _ qv1_16 (lv_sub hl [0, 1, 2] rfl) S hq
    · have hq := hq.trans (if_neg h16)
      refine lv_aload_n hx hb d_Mo_due_19 rfl (lv_at hl 0 rfl) ?_
      refine g_Mo_19 hx hb hts hown hK S.1 d_Mo_due_20 ?_
      refine lv_iload_n hx hb d_Mo_due_23 rfl (lv_at hl 2 rfl) ?_
      refine ld_M_4 (k := 4) hx hb hK S.1 (vin_dec (by decide)) (by decide) d_Mo_due_24 ?_
      refine lv_if_eq (tgt := 49) hx hb d_Mo_due_25 rfl (fun h25 => ?_) (fun h25 => ?_)
      · have hq := hq.trans (if_pos h25)
        exact B_Mo_due_49_4 _ _ _ _ qv1_16 (lv_sub hl [0, 1, 2] rfl) S hq
      · have hq := hq.trans (if_neg h25)
        refine lv_iload_n hx hb d_Mo_due_28 rfl (lv_at hl 1 rfl) ?_
        refine lv_if_eq (tgt := 47) hx hb d_Mo_due_29 rfl (fun h29 => ?_) (fun h29 => ?_)
        · have hq := hq.trans (if_pos h29)
          exact B_Mo_due_47_4 _ _ _ (lv_sub hl [0, 2] rfl) S hq
        · have hq := hq.trans (if_neg h29)
          refine lv_aload_n hx hb d_Mo_due_32 rfl (lv_at hl 0 rfl) ?_
          refine g_Mo_16 hx hb hts hown hK S.1 d_Mo_due_33 ?_
          refine lv_iload_n hx hb d_Mo_due_36 rfl (lv_at hl 2 rfl) ?_
          refine ld_M_3 (k := 4) hx hb hK S.1 (vin_dec (by decide)) (by decide) d_Mo_due_37 ?_
          refine lv_aload_n hx hb d_Mo_due_38 rfl (lv_at hl 0 rfl) ?_
          refine g_Mo_16 hx hb hts hown hK S.1 d_Mo_due_39 ?_
          refine lv_iload_n hx hb d_Mo_due_42 rfl (lv_at hl 1 rfl) ?_
          refine ld_M_3 (k := (v1).toNatClampNeg) hx hb hK S.1 qv1_16 rfl d_Mo_due_43 ?_
          refine lv_icmp_gt (tgt := 49) hx hb d_Mo_due_44 rfl (fun h44 => ?_) (fun h44 => ?_)
          · have hq := hq.trans (if_pos h44)
            exact B_Mo_due_49_4 _ _ _ _ qv1_16 (lv_sub hl [0, 1, 2] rfl) S hq
          · have hq := hq.trans (if_neg h44)
            exact B_Mo_due_47_4 _ _ _ (lv_sub hl [0, 2] rfl) S hq
  have B_Mo_due_49_5 : ∀ (v1 : Int32) (H : Heap) (locs : List Loc) (ls : Array Slot), (vp_in v1 16) → lv_has ls 3 [(0, .ref (a 0)), (1, .int v1), (2, .int (5 : Int32))] → St D (wM cI cZ a) A s σ H locs → F = s_Mo_due_49_5 v1 σ → W p l e ({ frames := 2, cells := 0, slots := 0, locals := 43 } : Room) s m args below meth c H locs 0 0 Q (F0 m 49 ls []) := by
    intro v1 H locs ls qv1_16 hl S hq
    refine lv_iinc (k := 2) (v := (4 : Int32)) hx hb d_Mo_due_49 hl rfl (by first | rfl | decide) (by decide) rfl (fun ls hl => ?_)
    refine lv_goto (tgt := 5) hx hb d_Mo_due_52 rfl ?_
    exact B_Mo_due_5_4 _ _ _ _ qv1_16 (lv_sub hl [1, 2, 0] rfl) S hq
  have B_Mo_due_47_5 : ∀ (H : Heap) (locs : List Loc) (ls : Array Slot), lv_has ls 3 [(0, .ref (a 0)), (2, .int (5 : Int32))] → St D (wM cI cZ a) A s σ H locs → F = s_Mo_due_47_5 σ → W p l e ({ frames := 2, cells := 0, slots := 0, locals := 43 } : Room) s m args below meth c H locs 0 0 Q (F0 m 47 ls []) := by
    intro H locs ls hl S hq
    refine lv_iload_n hx hb d_Mo_due_47 rfl (lv_at hl 1 rfl) ?_
    refine lv_istore_n hx hb d_Mo_due_48 rfl hl (by decide) rfl (fun ls hl => ?_)
    exact B_Mo_due_49_5 _ _ _ _ (vin_dec (by decide)) (lv_sub hl [1, 0, 2] rfl) S hq
  have B_Mo_due_5_5 : ∀ (v1 : Int32) (H : Heap) (locs : List Loc) (ls : Array Slot), (vp_in v1 16) → lv_has ls 3 [(0, .ref (a 0)), (1, .int v1), (2, .int (5 : Int32))] → St D (wM cI cZ a) A s σ H locs → F = s_Mo_due_5_5 v1 σ → W p l e ({ frames := 2, cells := 0, slots := 0, locals := 43 } : Room) s m args below meth c H locs 0 0 Q (F0 m 5 ls []) := by
    intro v1 H locs ls qv1_16 hl S hq
    refine lv_iload_n hx hb d_Mo_due_5 rfl (lv_at hl 2 rfl) ?_
    refine lv_iconst (v := 1) hx hb d_Mo_due_6 (by decide) ?_
    refine lv_icmp_le (tgt := 55) hx hb d_Mo_due_7 rfl (fun h9 => absurd h9 (by decide)) (fun _ => ?_)
    refine lv_aload_n hx hb d_Mo_due_10 rfl (lv_at hl 0 rfl) ?_
    refine g_Mo_23 hx hb hts hown hK S.1 d_Mo_due_11 ?_
    refine lv_iload_n hx hb d_Mo_due_14 rfl (lv_at hl 2 rfl) ?_
    refine ld_M_5 (k := 5) hx hb hK S.1 (vin_dec (by decide)) (by decide) d_Mo_due_15 ?_
    refine lv_if_eq (tgt := 49) hx hb d_Mo_due_16 rfl (fun h16 => ?_) (fun h16 => ?_)
    · have hq := hq.trans (if_pos h16)
      exact B_Mo_due_49_5 _ _ _ _ qv1_16 (lv_sub hl [0, 1, 2] rfl) S hq
    · have hq := hq.trans (if_neg h16)
      refine lv_aload_n hx hb d_Mo_due_19 rfl (lv_at hl 0 rfl) ?_
      refine g_Mo_19 hx hb hts hown hK S.1 d_Mo_due_20 ?_
      refine lv_iload_n hx hb d_Mo_due_23 rfl (lv_at hl 2 rfl) ?_
      refine ld_M_4 (k := 5) hx hb hK S.1 (vin_dec (by decide)) (by decide) d_Mo_due_24 ?_
      refine lv_if_eq (tgt := 49) hx hb d_Mo_due_25 rfl (fun h25 => ?_) (fun h25 => ?_)
      · have hq := hq.trans (if_pos h25)
        exact B_Mo_due_49_5 _ _ _ _ qv1_16 (lv_sub hl [0, 1, 2] rfl) S hq
      · have hq := hq.trans (if_neg h25)
        refine lv_iload_n hx hb d_Mo_due_28 rfl (lv_at hl 1 rfl) ?_
        refine lv_if_eq (tgt := 47) hx hb d_Mo_due_29 rfl (fun h29 => ?_) (fun h29 => ?_)
        · have hq := hq.trans (if_pos h29)
          exact B_Mo_due_47_5 _ _ _ (lv_sub hl [0, 2] rfl) S hq
        · have hq := hq.trans (if_neg h29)
          refine lv_aload_n hx hb d_Mo_due_32 rfl (lv_at hl 0 rfl) ?_
          refine g_Mo_16 hx hb hts hown hK S.1 d_Mo_due_33 ?_
          refine lv_iload_n hx hb d_Mo_due_36 rfl (lv_at hl 2 rfl) ?_
          refine ld_M_3 (k := 5) hx hb hK S.1 (vin_dec (by decide)) (by decide) d_Mo_due_37 ?_
          refine lv_aload_n hx hb d_Mo_due_38 rfl (lv_at hl 0 rfl) ?_
          refine g_Mo_16 hx hb hts hown hK S.1 d_Mo_due_39 ?_
          refine lv_iload_n hx hb d_Mo_due_42 rfl (lv_at hl 1 rfl) ?_
          refine ld_M_3 (k := (v1).toNatClampNeg) hx hb hK S.1 qv1_16 rfl d_Mo_due_43 ?_
          refine lv_icmp_gt (tgt := 49) hx hb d_Mo_due_44 rfl (fun h44 => ?_) (fun h44 => ?_)
          · have hq := hq.trans (if_pos h44)
            exact B_Mo_due_49_5 _ _ _ _ qv1_16 (lv_sub hl [0, 1, 2] rfl) S hq
          · have hq := hq.trans (if_neg h44)
            exact B_Mo_due_47_5 _ _ _ (lv_sub hl [0, 2] rfl) S hq
  have B_Mo_due_49_6 : ∀ (v1 : Int32) (H : Heap) (locs : List Loc) (ls : Array Slot), (vp_in v1 16) → lv_has ls 3 [(0, .ref (a 0)), (1, .int v1), (2, .int (6 : Int32))] → St D (wM cI cZ a) A s σ H locs → F = s_Mo_due_49_6 v1 σ → W p l e ({ frames := 2, cells := 0, slots := 0, locals := 43 } : Room) s m args below meth c H locs 0 0 Q (F0 m 49 ls []) := by
    intro v1 H locs ls qv1_16 hl S hq
    refine lv_iinc (k := 2) (v := (5 : Int32)) hx hb d_Mo_due_49 hl rfl (by first | rfl | decide) (by decide) rfl (fun ls hl => ?_)
    refine lv_goto (tgt := 5) hx hb d_Mo_due_52 rfl ?_
    exact B_Mo_due_5_5 _ _ _ _ qv1_16 (lv_sub hl [1, 2, 0] rfl) S hq
  have B_Mo_due_47_6 : ∀ (H : Heap) (locs : List Loc) (ls : Array Slot), lv_has ls 3 [(0, .ref (a 0)), (2, .int (6 : Int32))] → St D (wM cI cZ a) A s σ H locs → F = s_Mo_due_47_6 σ → W p l e ({ frames := 2, cells := 0, slots := 0, locals := 43 } : Room) s m args below meth c H locs 0 0 Q (F0 m 47 ls []) := by
    intro H locs ls hl S hq
    refine lv_iload_n hx hb d_Mo_due_47 rfl (lv_at hl 1 rfl) ?_
    refine lv_istore_n hx hb d_Mo_due_48 rfl hl (by decide) rfl (fun ls hl => ?_)
    exact B_Mo_due_49_6 _ _ _ _ (vin_dec (by decide)) (lv_sub hl [1, 0, 2] rfl) S hq
  have B_Mo_due_5_6 : ∀ (v1 : Int32) (H : Heap) (locs : List Loc) (ls : Array Slot), (vp_in v1 16) → lv_has ls 3 [(0, .ref (a 0)), (1, .int v1), (2, .int (6 : Int32))] → St D (wM cI cZ a) A s σ H locs → F = s_Mo_due_5_6 v1 σ → W p l e ({ frames := 2, cells := 0, slots := 0, locals := 43 } : Room) s m args below meth c H locs 0 0 Q (F0 m 5 ls []) := by
    intro v1 H locs ls qv1_16 hl S hq
    refine lv_iload_n hx hb d_Mo_due_5 rfl (lv_at hl 2 rfl) ?_
    refine lv_iconst (v := 1) hx hb d_Mo_due_6 (by decide) ?_
    refine lv_icmp_le (tgt := 55) hx hb d_Mo_due_7 rfl (fun h9 => absurd h9 (by decide)) (fun _ => ?_)
    refine lv_aload_n hx hb d_Mo_due_10 rfl (lv_at hl 0 rfl) ?_
    refine g_Mo_23 hx hb hts hown hK S.1 d_Mo_due_11 ?_
    refine lv_iload_n hx hb d_Mo_due_14 rfl (lv_at hl 2 rfl) ?_
    refine ld_M_5 (k := 6) hx hb hK S.1 (vin_dec (by decide)) (by decide) d_Mo_due_15 ?_
    refine lv_if_eq (tgt := 49) hx hb d_Mo_due_16 rfl (fun h16 => ?_) (fun h16 => ?_)
    · have hq := hq.trans (if_pos h16)
      exact B_Mo_due_49_6 _ _ _ _ qv1_16 (lv_sub hl [0, 1, 2] rfl) S hq
    · have hq := hq.trans (if_neg h16)
      refine lv_aload_n hx hb d_Mo_due_19 rfl (lv_at hl 0 rfl) ?_
      refine g_Mo_19 hx hb hts hown hK S.1 d_Mo_due_20 ?_
      refine lv_iload_n hx hb d_Mo_due_23 rfl (lv_at hl 2 rfl) ?_
      refine ld_M_4 (k := 6) hx hb hK S.1 (vin_dec (by decide)) (by decide) d_Mo_due_24 ?_
      refine lv_if_eq (tgt := 49) hx hb d_Mo_due_25 rfl (fun h25 => ?_) (fun h25 => ?_)
      · have hq := hq.trans (if_pos h25)
        exact B_Mo_due_49_6 _ _ _ _ qv1_16 (lv_sub hl [0, 1, 2] rfl) S hq
      · have hq := hq.trans (if_neg h25)
        refine lv_iload_n hx hb d_Mo_due_28 rfl (lv_at hl 1 rfl) ?_
        refine lv_if_eq (tgt := 47) hx hb d_Mo_due_29 rfl (fun h29 => ?_) (fun h29 => ?_)
        · have hq := hq.trans (if_pos h29)
          exact B_Mo_due_47_6 _ _ _ (lv_sub hl [0, 2] rfl) S hq
        · have hq := hq.trans (if_neg h29)
          refine lv_aload_n hx hb d_Mo_due_32 rfl (lv_at hl 0 rfl) ?_
          refine g_Mo_16 hx hb hts hown hK S.1 d_Mo_due_33 ?_
          refine lv_iload_n hx hb d_Mo_due_36 rfl (lv_at hl 2 rfl) ?_
          refine ld_M_3 (k := 6) hx hb hK S.1 (vin_dec (by decide)) (by decide) d_Mo_due_37 ?_
          refine lv_aload_n hx hb d_Mo_due_38 rfl (lv_at hl 0 rfl) ?_
          refine g_Mo_16 hx hb hts hown hK S.1 d_Mo_due_39 ?_
          refine lv_iload_n hx hb d_Mo_due_42 rfl (lv_at hl 1 rfl) ?_
          refine ld_M_3 (k := (v1).toNatClampNeg) hx hb hK S.1 qv1_16 rfl d_Mo_due_43 ?_
          refine lv_icmp_gt (tgt := 49) hx hb d_Mo_due_44 rfl (fun h44 => ?_) (fun h44 => ?_)
          · have hq := hq.trans (if_pos h44)
            exact B_Mo_due_49_6 _ _ _ _ qv1_16 (lv_sub hl [0, 1, 2] rfl) S hq
          · have hq := hq.trans (if_neg h44)
            exact B_Mo_due_47_6 _ _ _ (lv_sub hl [0, 2] rfl) S hq
  have B_Mo_due_49_7 : ∀ (v1 : Int32) (H : Heap) (locs : List Loc) (ls : Array Slot), (vp_in v1 16) → lv_has ls 3 [(0, .ref (a 0)), (1, .int v1), (2, .int (7 : Int32))] → St D (wM cI cZ a) A s σ H locs → F = s_Mo_due_49_7 v1 σ → W p l e ({ frames := 2, cells := 0, slots := 0, locals := 43 } : Room) s m args below meth c H locs 0 0 Q (F0 m 49 ls []) := by
    intro v1 H locs ls qv1_16 hl S hq
    refine lv_iinc (k := 2) (v := (6 : Int32)) hx hb d_Mo_due_49 hl rfl (by first | rfl | decide) (by decide) rfl (fun ls hl => ?_)
    refine lv_goto (tgt := 5) hx hb d_Mo_due_52 rfl ?_
    exact B_Mo_due_5_6 _ _ _ _ qv1_16 (lv_sub hl [1, 2, 0] rfl) S hq
  have B_Mo_due_47_7 : ∀ (H : Heap) (locs : List Loc) (ls : Array Slot), lv_has ls 3 [(0, .ref (a 0)), (2, .int (7 : Int32))] → St D (wM cI cZ a) A s σ H locs → F = s_Mo_due_47_7 σ → W p l e ({ frames := 2, cells := 0, slots := 0, locals := 43 } : Room) s m args below meth c H locs 0 0 Q (F0 m 47 ls []) := by
    intro H locs ls hl S hq
    refine lv_iload_n hx hb d_Mo_due_47 rfl (lv_at hl 1 rfl) ?_
    refine lv_istore_n hx hb d_Mo_due_48 rfl hl (by decide) rfl (fun ls hl => ?_)
    exact B_Mo_due_49_7 _ _ _ _ (vin_dec (by decide)) (lv_sub hl [1, 0, 2] rfl) S hq
  have B_Mo_due_5_7 : ∀ (v1 : Int32) (H : Heap) (locs : List Loc) (ls : Array Slot), (vp_in v1 16) → lv_has ls 3 [(0, .ref (a 0)), (1, .int v1), (2, .int (7 : Int32))] → St D (wM cI cZ a) A s σ H locs → F = s_Mo_due_5_7 v1 σ → W p l e ({ frames := 2, cells := 0, slots := 0, locals := 43 } : Room) s m args below meth c H locs 0 0 Q (F0 m 5 ls []) := by
    intro v1 H locs ls qv1_16 hl S hq
    refine lv_iload_n hx hb d_Mo_due_5 rfl (lv_at hl 2 rfl) ?_
    refine lv_iconst (v := 1) hx hb d_Mo_due_6 (by decide) ?_
    refine lv_icmp_le (tgt := 55) hx hb d_Mo_due_7 rfl (fun h9 => absurd h9 (by decide)) (fun _ => ?_)
    refine lv_aload_n hx hb d_Mo_due_10 rfl (lv_at hl 0 rfl) ?_
    refine g_Mo_23 hx hb hts hown hK S.1 d_Mo_due_11 ?_
    refine lv_iload_n hx hb d_Mo_due_14 rfl (lv_at hl 2 rfl) ?_
    refine ld_M_5 (k := 7) hx hb hK S.1 (vin_dec (by decide)) (by decide) d_Mo_due_15 ?_
    refine lv_if_eq (tgt := 49) hx hb d_Mo_due_16 rfl (fun h16 => ?_) (fun h16 => ?_)
    · have hq := hq.trans (if_pos h16)
      exact B_Mo_due_49_7 _ _ _ _ qv1_16 (lv_sub hl [0, 1, 2] rfl) S hq
    · have hq := hq.trans (if_neg h16)
      refine lv_aload_n hx hb d_Mo_due_19 rfl (lv_at hl 0 rfl) ?_
      refine g_Mo_19 hx hb hts hown hK S.1 d_Mo_due_20 ?_
      refine lv_iload_n hx hb d_Mo_due_23 rfl (lv_at hl 2 rfl) ?_
      refine ld_M_4 (k := 7) hx hb hK S.1 (vin_dec (by decide)) (by decide) d_Mo_due_24 ?_
      refine lv_if_eq (tgt := 49) hx hb d_Mo_due_25 rfl (fun h25 => ?_) (fun h25 => ?_)
      · have hq := hq.trans (if_pos h25)
        exact B_Mo_due_49_7 _ _ _ _ qv1_16 (lv_sub hl [0, 1, 2] rfl) S hq
      · have hq := hq.trans (if_neg h25)
        refine lv_iload_n hx hb d_Mo_due_28 rfl (lv_at hl 1 rfl) ?_
        refine lv_if_eq (tgt := 47) hx hb d_Mo_due_29 rfl (fun h29 => ?_) (fun h29 => ?_)
        · have hq := hq.trans (if_pos h29)
          exact B_Mo_due_47_7 _ _ _ (lv_sub hl [0, 2] rfl) S hq
        · have hq := hq.trans (if_neg h29)
          refine lv_aload_n hx hb d_Mo_due_32 rfl (lv_at hl 0 rfl) ?_
          refine g_Mo_16 hx hb hts hown hK S.1 d_Mo_due_33 ?_
          refine lv_iload_n hx hb d_Mo_due_36 rfl (lv_at hl 2 rfl) ?_
          refine ld_M_3 (k := 7) hx hb hK S.1 (vin_dec (by decide)) (by decide) d_Mo_due_37 ?_
          refine lv_aload_n hx hb d_Mo_due_38 rfl (lv_at hl 0 rfl) ?_
          refine g_Mo_16 hx hb hts hown hK S.1 d_Mo_due_39 ?_
          refine lv_iload_n hx hb d_Mo_due_42 rfl (lv_at hl 1 rfl) ?_
          refine ld_M_3 (k := (v1).toNatClampNeg) hx hb hK S.1 qv1_16 rfl d_Mo_due_43 ?_
          refine lv_icmp_gt (tgt := 49) hx hb d_Mo_due_44 rfl (fun h44 => ?_) (fun h44 => ?_)
          · have hq := hq.trans (if_pos h44)
            exact B_Mo_due_49_7 _ _ _ _ qv1_16 (lv_sub hl [0, 1, 2] rfl) S hq
          · have hq := hq.trans (if_neg h44)
            exact B_Mo_due_47_7 _ _ _ (lv_sub hl [0, 2] rfl) S hq
  have B_Mo_due_49_8 : ∀ (v1 : Int32) (H : Heap) (locs : List Loc) (ls : Array Slot), (vp_in v1 16) → lv_has ls 3 [(0, .ref (a 0)), (1, .int v1), (2, .int (8 : Int32))] → St D (wM cI cZ a) A s σ H locs → F = s_Mo_due_49_8 v1 σ → W p l e ({ frames := 2, cells := 0, slots := 0, locals := 43 } : Room) s m args below meth c H locs 0 0 Q (F0 m 49 ls []) := by
    intro v1 H locs ls qv1_16 hl S hq
    refine lv_iinc (k := 2) (v := (7 : Int32)) hx hb d_Mo_due_49 hl rfl (by first | rfl | decide) (by decide) rfl (fun ls hl => ?_)
    refine lv_goto (tgt := 5) hx hb d_Mo_due_52 rfl ?_
    exact B_Mo_due_5_7 _ _ _ _ qv1_16 (lv_sub hl [1, 2, 0] rfl) S hq
  have B_Mo_due_47_8 : ∀ (H : Heap) (locs : List Loc) (ls : Array Slot), lv_has ls 3 [(0, .ref (a 0)), (2, .int (8 : Int32))] → St D (wM cI cZ a) A s σ H locs → F = s_Mo_due_47_8 σ → W p l e ({ frames := 2, cells := 0, slots := 0, locals := 43 } : Room) s m args below meth c H locs 0 0 Q (F0 m 47 ls []) := by
    intro H locs ls hl S hq
    refine lv_iload_n hx hb d_Mo_due_47 rfl (lv_at hl 1 rfl) ?_
    refine lv_istore_n hx hb d_Mo_due_48 rfl hl (by decide) rfl (fun ls hl => ?_)
    exact B_Mo_due_49_8 _ _ _ _ (vin_dec (by decide)) (lv_sub hl [1, 0, 2] rfl) S hq
  have B_Mo_due_5_8 : ∀ (v1 : Int32) (H : Heap) (locs : List Loc) (ls : Array Slot), (vp_in v1 16) → lv_has ls 3 [(0, .ref (a 0)), (1, .int v1), (2, .int (8 : Int32))] → St D (wM cI cZ a) A s σ H locs → F = s_Mo_due_5_8 v1 σ → W p l e ({ frames := 2, cells := 0, slots := 0, locals := 43 } : Room) s m args below meth c H locs 0 0 Q (F0 m 5 ls []) := by
    intro v1 H locs ls qv1_16 hl S hq
    refine lv_iload_n hx hb d_Mo_due_5 rfl (lv_at hl 2 rfl) ?_
    refine lv_iconst (v := 1) hx hb d_Mo_due_6 (by decide) ?_
    refine lv_icmp_le (tgt := 55) hx hb d_Mo_due_7 rfl (fun h9 => absurd h9 (by decide)) (fun _ => ?_)
    refine lv_aload_n hx hb d_Mo_due_10 rfl (lv_at hl 0 rfl) ?_
    refine g_Mo_23 hx hb hts hown hK S.1 d_Mo_due_11 ?_
    refine lv_iload_n hx hb d_Mo_due_14 rfl (lv_at hl 2 rfl) ?_
    refine ld_M_5 (k := 8) hx hb hK S.1 (vin_dec (by decide)) (by decide) d_Mo_due_15 ?_
    refine lv_if_eq (tgt := 49) hx hb d_Mo_due_16 rfl (fun h16 => ?_) (fun h16 => ?_)
    · have hq := hq.trans (if_pos h16)
      exact B_Mo_due_49_8 _ _ _ _ qv1_16 (lv_sub hl [0, 1, 2] rfl) S hq
    · have hq := hq.trans (if_neg h16)
      refine lv_aload_n hx hb d_Mo_due_19 rfl (lv_at hl 0 rfl) ?_
      refine g_Mo_19 hx hb hts hown hK S.1 d_Mo_due_20 ?_
      refine lv_iload_n hx hb d_Mo_due_23 rfl (lv_at hl 2 rfl) ?_
      refine ld_M_4 (k := 8) hx hb hK S.1 (vin_dec (by decide)) (by decide) d_Mo_due_24 ?_
      refine lv_if_eq (tgt := 49) hx hb d_Mo_due_25 rfl (fun h25 => ?_) (fun h25 => ?_)
      · have hq := hq.trans (if_pos h25)
        exact B_Mo_due_49_8 _ _ _ _ qv1_16 (lv_sub hl [0, 1, 2] rfl) S hq
      · have hq := hq.trans (if_neg h25)
        refine lv_iload_n hx hb d_Mo_due_28 rfl (lv_at hl 1 rfl) ?_
        refine lv_if_eq (tgt := 47) hx hb d_Mo_due_29 rfl (fun h29 => ?_) (fun h29 => ?_)
        · have hq := hq.trans (if_pos h29)
          exact B_Mo_due_47_8 _ _ _ (lv_sub hl [0, 2] rfl) S hq
        · have hq := hq.trans (if_neg h29)
          refine lv_aload_n hx hb d_Mo_due_32 rfl (lv_at hl 0 rfl) ?_
          refine g_Mo_16 hx hb hts hown hK S.1 d_Mo_due_33 ?_
          refine lv_iload_n hx hb d_Mo_due_36 rfl (lv_at hl 2 rfl) ?_
          refine ld_M_3 (k := 8) hx hb hK S.1 (vin_dec (by decide)) (by decide) d_Mo_due_37 ?_
          refine lv_aload_n hx hb d_Mo_due_38 rfl (lv_at hl 0 rfl) ?_
          refine g_Mo_16 hx hb hts hown hK S.1 d_Mo_due_39 ?_
          refine lv_iload_n hx hb d_Mo_due_42 rfl (lv_at hl 1 rfl) ?_
          refine ld_M_3 (k := (v1).toNatClampNeg) hx hb hK S.1 qv1_16 rfl d_Mo_due_43 ?_
          refine lv_icmp_gt (tgt := 49) hx hb d_Mo_due_44 rfl (fun h44 => ?_) (fun h44 => ?_)
          · have hq := hq.trans (if_pos h44)
            exact B_Mo_due_49_8 _ _ _ _ qv1_16 (lv_sub hl [0, 1, 2] rfl) S hq
          · have hq := hq.trans (if_neg h44)
            exact B_Mo_due_47_8 _ _ _ (lv_sub hl [0, 2] rfl) S hq
  have B_Mo_due_49_9 : ∀ (v1 : Int32) (H : Heap) (locs : List Loc) (ls : Array Slot), (vp_in v1 16) → lv_has ls 3 [(0, .ref (a 0)), (1, .int v1), (2, .int (9 : Int32))] → St D (wM cI cZ a) A s σ H locs → F = s_Mo_due_49_9 v1 σ → W p l e ({ frames := 2, cells := 0, slots := 0, locals := 43 } : Room) s m args below meth c H locs 0 0 Q (F0 m 49 ls []) := by
    intro v1 H locs ls qv1_16 hl S hq
    refine lv_iinc (k := 2) (v := (8 : Int32)) hx hb d_Mo_due_49 hl rfl (by first | rfl | decide) (by decide) rfl (fun ls hl => ?_)
    refine lv_goto (tgt := 5) hx hb d_Mo_due_52 rfl ?_
    exact B_Mo_due_5_8 _ _ _ _ qv1_16 (lv_sub hl [1, 2, 0] rfl) S hq
  have B_Mo_due_47_9 : ∀ (H : Heap) (locs : List Loc) (ls : Array Slot), lv_has ls 3 [(0, .ref (a 0)), (2, .int (9 : Int32))] → St D (wM cI cZ a) A s σ H locs → F = s_Mo_due_47_9 σ → W p l e ({ frames := 2, cells := 0, slots := 0, locals := 43 } : Room) s m args below meth c H locs 0 0 Q (F0 m 47 ls []) := by
    intro H locs ls hl S hq
    refine lv_iload_n hx hb d_Mo_due_47 rfl (lv_at hl 1 rfl) ?_
    refine lv_istore_n hx hb d_Mo_due_48 rfl hl (by decide) rfl (fun ls hl => ?_)
    exact B_Mo_due_49_9 _ _ _ _ (vin_dec (by decide)) (lv_sub hl [1, 0, 2] rfl) S hq
  have B_Mo_due_5_9 : ∀ (v1 : Int32) (H : Heap) (locs : List Loc) (ls : Array Slot), (vp_in v1 16) → lv_has ls 3 [(0, .ref (a 0)), (1, .int v1), (2, .int (9 : Int32))] → St D (wM cI cZ a) A s σ H locs → F = s_Mo_due_5_9 v1 σ → W p l e ({ frames := 2, cells := 0, slots := 0, locals := 43 } : Room) s m args below meth c H locs 0 0 Q (F0 m 5 ls []) := by
    intro v1 H locs ls qv1_16 hl S hq
    refine lv_iload_n hx hb d_Mo_due_5 rfl (lv_at hl 2 rfl) ?_
    refine lv_iconst (v := 1) hx hb d_Mo_due_6 (by decide) ?_
    refine lv_icmp_le (tgt := 55) hx hb d_Mo_due_7 rfl (fun h9 => absurd h9 (by decide)) (fun _ => ?_)
    refine lv_aload_n hx hb d_Mo_due_10 rfl (lv_at hl 0 rfl) ?_
    refine g_Mo_23 hx hb hts hown hK S.1 d_Mo_due_11 ?_
    refine lv_iload_n hx hb d_Mo_due_14 rfl (lv_at hl 2 rfl) ?_
    refine ld_M_5 (k := 9) hx hb hK S.1 (vin_dec (by decide)) (by decide) d_Mo_due_15 ?_
    refine lv_if_eq (tgt := 49) hx hb d_Mo_due_16 rfl (fun h16 => ?_) (fun h16 => ?_)
    · have hq := hq.trans (if_pos h16)
      exact B_Mo_due_49_9 _ _ _ _ qv1_16 (lv_sub hl [0, 1, 2] rfl) S hq
    · have hq := hq.trans (if_neg h16)
      refine lv_aload_n hx hb d_Mo_due_19 rfl (lv_at hl 0 rfl) ?_
      refine g_Mo_19 hx hb hts hown hK S.1 d_Mo_due_20 ?_
      refine lv_iload_n hx hb d_Mo_due_23 rfl (lv_at hl 2 rfl) ?_
      refine ld_M_4 (k := 9) hx hb hK S.1 (vin_dec (by decide)) (by decide) d_Mo_due_24 ?_
      refine lv_if_eq (tgt := 49) hx hb d_Mo_due_25 rfl (fun h25 => ?_) (fun h25 => ?_)
      · have hq := hq.trans (if_pos h25)
        exact B_Mo_due_49_9 _ _ _ _ qv1_16 (lv_sub hl [0, 1, 2] rfl) S hq
      · have hq := hq.trans (if_neg h25)
        refine lv_iload_n hx hb d_Mo_due_28 rfl (lv_at hl 1 rfl) ?_
        refine lv_if_eq (tgt := 47) hx hb d_Mo_due_29 rfl (fun h29 => ?_) (fun h29 => ?_)
        · have hq := hq.trans (if_pos h29)
          exact B_Mo_due_47_9 _ _ _ (lv_sub hl [0, 2] rfl) S hq
        · have hq := hq.trans (if_neg h29)
          refine lv_aload_n hx hb d_Mo_due_32 rfl (lv_at hl 0 rfl) ?_
          refine g_Mo_16 hx hb hts hown hK S.1 d_Mo_due_33 ?_
          refine lv_iload_n hx hb d_Mo_due_36 rfl (lv_at hl 2 rfl) ?_
          refine ld_M_3 (k := 9) hx hb hK S.1 (vin_dec (by decide)) (by decide) d_Mo_due_37 ?_
          refine lv_aload_n hx hb d_Mo_due_38 rfl (lv_at hl 0 rfl) ?_
          refine g_Mo_16 hx hb hts hown hK S.1 d_Mo_due_39 ?_
          refine lv_iload_n hx hb d_Mo_due_42 rfl (lv_at hl 1 rfl) ?_
          refine ld_M_3 (k := (v1).toNatClampNeg) hx hb hK S.1 qv1_16 rfl d_Mo_due_43 ?_
          refine lv_icmp_gt (tgt := 49) hx hb d_Mo_due_44 rfl (fun h44 => ?_) (fun h44 => ?_)
          · have hq := hq.trans (if_pos h44)
            exact B_Mo_due_49_9 _ _ _ _ qv1_16 (lv_sub hl [0, 1, 2] rfl) S hq
          · have hq := hq.trans (if_neg h44)
            exact B_Mo_due_47_9 _ _ _ (lv_sub hl [0, 2] rfl) S hq
  have B_Mo_due_49_10 : ∀ (v1 : Int32) (H : Heap) (locs : List Loc) (ls : Array Slot), (vp_in v1 16) → lv_has ls 3 [(0, .ref (a 0)), (1, .int v1), (2, .int (10 : Int32))] → St D (wM cI cZ a) A s σ H locs → F = s_Mo_due_49_10 v1 σ → W p l e ({ frames := 2, cells := 0, slots := 0, locals := 43 } : Room) s m args below meth c H locs 0 0 Q (F0 m 49 ls []) := by
    intro v1 H locs ls qv1_16 hl S hq
    refine lv_iinc (k := 2) (v := (9 : Int32)) hx hb d_Mo_due_49 hl rfl (by first | rfl | decide) (by decide) rfl (fun ls hl => ?_)
    refine lv_goto (tgt := 5) hx hb d_Mo_due_52 rfl ?_
    exact B_Mo_due_5_9 _ _ _ _ qv1_16 (lv_sub hl [1, 2, 0] rfl) S hq
  have B_Mo_due_47_10 : ∀ (H : Heap) (locs : List Loc) (ls : Array Slot), lv_has ls 3 [(0, .ref (a 0)), (2, .int (10 : Int32))] → St D (wM cI cZ a) A s σ H locs → F = s_Mo_due_47_10 σ → W p l e ({ frames := 2, cells := 0, slots := 0, locals := 43 } : Room) s m args below meth c H locs 0 0 Q (F0 m 47 ls []) := by
    intro H locs ls hl S hq
    refine lv_iload_n hx hb d_Mo_due_47 rfl (lv_at hl 1 rfl) ?_
    refine lv_istore_n hx hb d_Mo_due_48 rfl hl (by decide) rfl (fun ls hl => ?_)
    exact B_Mo_due_49_10 _ _ _ _ (vin_dec (by decide)) (lv_sub hl [1, 0, 2] rfl) S hq
  have B_Mo_due_5_10 : ∀ (v1 : Int32) (H : Heap) (locs : List Loc) (ls : Array Slot), (vp_in v1 16) → lv_has ls 3 [(0, .ref (a 0)), (1, .int v1), (2, .int (10 : Int32))] → St D (wM cI cZ a) A s σ H locs → F = s_Mo_due_5_10 v1 σ → W p l e ({ frames := 2, cells := 0, slots := 0, locals := 43 } : Room) s m args below meth c H locs 0 0 Q (F0 m 5 ls []) := by
    intro v1 H locs ls qv1_16 hl S hq
    refine lv_iload_n hx hb d_Mo_due_5 rfl (lv_at hl 2 rfl) ?_
    refine lv_iconst (v := 1) hx hb d_Mo_due_6 (by decide) ?_
    refine lv_icmp_le (tgt := 55) hx hb d_Mo_due_7 rfl (fun h9 => absurd h9 (by decide)) (fun _ => ?_)
    refine lv_aload_n hx hb d_Mo_due_10 rfl (lv_at hl 0 rfl) ?_
    refine g_Mo_23 hx hb hts hown hK S.1 d_Mo_due_11 ?_
    refine lv_iload_n hx hb d_Mo_due_14 rfl (lv_at hl 2 rfl) ?_
    refine ld_M_5 (k := 10) hx hb hK S.1 (vin_dec (by decide)) (by decide) d_Mo_due_15 ?_
    refine lv_if_eq (tgt := 49) hx hb d_Mo_due_16 rfl (fun h16 => ?_) (fun h16 => ?_)
    · have hq := hq.trans (if_pos h16)
      exact B_Mo_due_49_10 _ _ _ _ qv1_16 (lv_sub hl [0, 1, 2] rfl) S hq
    · have hq := hq.trans (if_neg h16)
      refine lv_aload_n hx hb d_Mo_due_19 rfl (lv_at hl 0 rfl) ?_
      refine g_Mo_19 hx hb hts hown hK S.1 d_Mo_due_20 ?_
      refine lv_iload_n hx hb d_Mo_due_23 rfl (lv_at hl 2 rfl) ?_
      refine ld_M_4 (k := 10) hx hb hK S.1 (vin_dec (by decide)) (by decide) d_Mo_due_24 ?_
      refine lv_if_eq (tgt := 49) hx hb d_Mo_due_25 rfl (fun h25 => ?_) (fun h25 => ?_)
      · have hq := hq.trans (if_pos h25)
        exact B_Mo_due_49_10 _ _ _ _ qv1_16 (lv_sub hl [0, 1, 2] rfl) S hq
      · have hq := hq.trans (if_neg h25)
        refine lv_iload_n hx hb d_Mo_due_28 rfl (lv_at hl 1 rfl) ?_
        refine lv_if_eq (tgt := 47) hx hb d_Mo_due_29 rfl (fun h29 => ?_) (fun h29 => ?_)
        · have hq := hq.trans (if_pos h29)
          exact B_Mo_due_47_10 _ _ _ (lv_sub hl [0, 2] rfl) S hq
        · have hq := hq.trans (if_neg h29)
          refine lv_aload_n hx hb d_Mo_due_32 rfl (lv_at hl 0 rfl) ?_
          refine g_Mo_16 hx hb hts hown hK S.1 d_Mo_due_33 ?_
          refine lv_iload_n hx hb d_Mo_due_36 rfl (lv_at hl 2 rfl) ?_
          refine ld_M_3 (k := 10) hx hb hK S.1 (vin_dec (by decide)) (by decide) d_Mo_due_37 ?_
          refine lv_aload_n hx hb d_Mo_due_38 rfl (lv_at hl 0 rfl) ?_
          refine g_Mo_16 hx hb hts hown hK S.1 d_Mo_due_39 ?_
          refine lv_iload_n hx hb d_Mo_due_42 rfl (lv_at hl 1 rfl) ?_
          refine ld_M_3 (k := (v1).toNatClampNeg) hx hb hK S.1 qv1_16 rfl d_Mo_due_43 ?_
          refine lv_icmp_gt (tgt := 49) hx hb d_Mo_due_44 rfl (fun h44 => ?_) (fun h44 => ?_)
          · have hq := hq.trans (if_pos h44)
            exact B_Mo_due_49_10 _ _ _ _ qv1_16 (lv_sub hl [0, 1, 2] rfl) S hq
          · have hq := hq.trans (if_neg h44)
            exact B_Mo_due_47_10 _ _ _ (lv_sub hl [0, 2] rfl) S hq
  have B_Mo_due_49_11 : ∀ (v1 : Int32) (H : Heap) (locs : List Loc) (ls : Array Slot), (vp_in v1 16) → lv_has ls 3 [(0, .ref (a 0)), (1, .int v1), (2, .int (11 : Int32))] → St D (wM cI cZ a) A s σ H locs → F = s_Mo_due_49_11 v1 σ → W p l e ({ frames := 2, cells := 0, slots := 0, locals := 43 } : Room) s m args below meth c H locs 0 0 Q (F0 m 49 ls []) := by
    intro v1 H locs ls qv1_16 hl S hq
    refine lv_iinc (k := 2) (v := (10 : Int32)) hx hb d_Mo_due_49 hl rfl (by first | rfl | decide) (by decide) rfl (fun ls hl => ?_)
    refine lv_goto (tgt := 5) hx hb d_Mo_due_52 rfl ?_
    exact B_Mo_due_5_10 _ _ _ _ qv1_16 (lv_sub hl [1, 2, 0] rfl) S hq
  have B_Mo_due_47_11 : ∀ (H : Heap) (locs : List Loc) (ls : Array Slot), lv_has ls 3 [(0, .ref (a 0)), (2, .int (11 : Int32))] → St D (wM cI cZ a) A s σ H locs → F = s_Mo_due_47_11 σ → W p l e ({ frames := 2, cells := 0, slots := 0, locals := 43 } : Room) s m args below meth c H locs 0 0 Q (F0 m 47 ls []) := by
    intro H locs ls hl S hq
    refine lv_iload_n hx hb d_Mo_due_47 rfl (lv_at hl 1 rfl) ?_
    refine lv_istore_n hx hb d_Mo_due_48 rfl hl (by decide) rfl (fun ls hl => ?_)
    exact B_Mo_due_49_11 _ _ _ _ (vin_dec (by decide)) (lv_sub hl [1, 0, 2] rfl) S hq
  have B_Mo_due_5_11 : ∀ (v1 : Int32) (H : Heap) (locs : List Loc) (ls : Array Slot), (vp_in v1 16) → lv_has ls 3 [(0, .ref (a 0)), (1, .int v1), (2, .int (11 : Int32))] → St D (wM cI cZ a) A s σ H locs → F = s_Mo_due_5_11 v1 σ → W p l e ({ frames := 2, cells := 0, slots := 0, locals := 43 } : Room) s m args below meth c H locs 0 0 Q (F0 m 5 ls []) := by
    intro v1 H locs ls qv1_16 hl S hq
    refine lv_iload_n hx hb d_Mo_due_5 rfl (lv_at hl 2 rfl) ?_
    refine lv_iconst (v := 1) hx hb d_Mo_due_6 (by decide) ?_
    refine lv_icmp_le (tgt := 55) hx hb d_Mo_due_7 rfl (fun h9 => absurd h9 (by decide)) (fun _ => ?_)
    refine lv_aload_n hx hb d_Mo_due_10 rfl (lv_at hl 0 rfl) ?_
    refine g_Mo_23 hx hb hts hown hK S.1 d_Mo_due_11 ?_
    refine lv_iload_n hx hb d_Mo_due_14 rfl (lv_at hl 2 rfl) ?_
    refine ld_M_5 (k := 11) hx hb hK S.1 (vin_dec (by decide)) (by decide) d_Mo_due_15 ?_
    refine lv_if_eq (tgt := 49) hx hb d_Mo_due_16 rfl (fun h16 => ?_) (fun h16 => ?_)
    · have hq := hq.trans (if_pos h16)
      exact B_Mo_due_49_11 _ _ _ _ qv1_16 (lv_sub hl [0, 1, 2] rfl) S hq
    · have hq := hq.trans (if_neg h16)
      refine lv_aload_n hx hb d_Mo_due_19 rfl (lv_at hl 0 rfl) ?_
      refine g_Mo_19 hx hb hts hown hK S.1 d_Mo_due_20 ?_
      refine lv_iload_n hx hb d_Mo_due_23 rfl (lv_at hl 2 rfl) ?_
      refine ld_M_4 (k := 11) hx hb hK S.1 (vin_dec (by decide)) (by decide) d_Mo_due_24 ?_
      refine lv_if_eq (tgt := 49) hx hb d_Mo_due_25 rfl (fun h25 => ?_) (fun h25 => ?_)
      · have hq := hq.trans (if_pos h25)
        exact B_Mo_due_49_11 _ _ _ _ qv1_16 (lv_sub hl [0, 1, 2] rfl) S hq
      · have hq := hq.trans (if_neg h25)
        refine lv_iload_n hx hb d_Mo_due_28 rfl (lv_at hl 1 rfl) ?_
        refine lv_if_eq (tgt := 47) hx hb d_Mo_due_29 rfl (fun h29 => ?_) (fun h29 => ?_)
        · have hq := hq.trans (if_pos h29)
          exact B_Mo_due_47_11 _ _ _ (lv_sub hl [0, 2] rfl) S hq
        · have hq := hq.trans (if_neg h29)
          refine lv_aload_n hx hb d_Mo_due_32 rfl (lv_at hl 0 rfl) ?_
          refine g_Mo_16 hx hb hts hown hK S.1 d_Mo_due_33 ?_
          refine lv_iload_n hx hb d_Mo_due_36 rfl (lv_at hl 2 rfl) ?_
          refine ld_M_3 (k := 11) hx hb hK S.1 (vin_dec (by decide)) (by decide) d_Mo_due_37 ?_
          refine lv_aload_n hx hb d_Mo_due_38 rfl (lv_at hl 0 rfl) ?_
          refine g_Mo_16 hx hb hts hown hK S.1 d_Mo_due_39 ?_
          refine lv_iload_n hx hb d_Mo_due_42 rfl (lv_at hl 1 rfl) ?_
          refine ld_M_3 (k := (v1).toNatClampNeg) hx hb hK S.1 qv1_16 rfl d_Mo_due_43 ?_
          refine lv_icmp_gt (tgt := 49) hx hb d_Mo_due_44 rfl (fun h44 => ?_) (fun h44 => ?_)
          · have hq := hq.trans (if_pos h44)
            exact B_Mo_due_49_11 _ _ _ _ qv1_16 (lv_sub hl [0, 1, 2] rfl) S hq
          · have hq := hq.trans (if_neg h44)
            exact B_Mo_due_47_11 _ _ _ (lv_sub hl [0, 2] rfl) S hq
  have B_Mo_due_49_12 : ∀ (v1 : Int32) (H : Heap) (locs : List Loc) (ls : Array Slot), (vp_in v1 16) → lv_has ls 3 [(0, .ref (a 0)), (1, .int v1), (2, .int (12 : Int32))] → St D (wM cI cZ a) A s σ H locs → F = s_Mo_due_49_12 v1 σ → W p l e ({ frames := 2, cells := 0, slots := 0, locals := 43 } : Room) s m args below meth c H locs 0 0 Q (F0 m 49 ls []) := by
    intro v1 H locs ls qv1_16 hl S hq
    refine lv_iinc (k := 2) (v := (11 : Int32)) hx hb d_Mo_due_49 hl rfl (by first | rfl | decide) (by decide) rfl (fun ls hl => ?_)
    refine lv_goto (tgt := 5) hx hb d_Mo_due_52 rfl ?_
    exact B_Mo_due_5_11 _ _ _ _ qv1_16 (lv_sub hl [1, 2, 0] rfl) S hq
  have B_Mo_due_47_12 : ∀ (H : Heap) (locs : List Loc) (ls : Array Slot), lv_has ls 3 [(0, .ref (a 0)), (2, .int (12 : Int32))] → St D (wM cI cZ a) A s σ H locs → F = s_Mo_due_47_12 σ → W p l e ({ frames := 2, cells := 0, slots := 0, locals := 43 } : Room) s m args below meth c H locs 0 0 Q (F0 m 47 ls []) := by
    intro H locs ls hl S hq
    refine lv_iload_n hx hb d_Mo_due_47 rfl (lv_at hl 1 rfl) ?_
    refine lv_istore_n hx hb d_Mo_due_48 rfl hl (by decide) rfl (fun ls hl => ?_)
    exact B_Mo_due_49_12 _ _ _ _ (vin_dec (by decide)) (lv_sub hl [1, 0, 2] rfl) S hq
  have B_Mo_due_5_12 : ∀ (v1 : Int32) (H : Heap) (locs : List Loc) (ls : Array Slot), (vp_in v1 16) → lv_has ls 3 [(0, .ref (a 0)), (1, .int v1), (2, .int (12 : Int32))] → St D (wM cI cZ a) A s σ H locs → F = s_Mo_due_5_12 v1 σ → W p l e ({ frames := 2, cells := 0, slots := 0, locals := 43 } : Room) s m args below meth c H locs 0 0 Q (F0 m 5 ls []) := by
    intro v1 H locs ls qv1_16 hl S hq
    refine lv_iload_n hx hb d_Mo_due_5 rfl (lv_at hl 2 rfl) ?_
    refine lv_iconst (v := 1) hx hb d_Mo_due_6 (by decide) ?_
    refine lv_icmp_le (tgt := 55) hx hb d_Mo_due_7 rfl (fun h9 => absurd h9 (by decide)) (fun _ => ?_)
    refine lv_aload_n hx hb d_Mo_due_10 rfl (lv_at hl 0 rfl) ?_
    refine g_Mo_23 hx hb hts hown hK S.1 d_Mo_due_11 ?_
    refine lv_iload_n hx hb d_Mo_due_14 rfl (lv_at hl 2 rfl) ?_
    refine ld_M_5 (k := 12) hx hb hK S.1 (vin_dec (by decide)) (by decide) d_Mo_due_15 ?_
    refine lv_if_eq (tgt := 49) hx hb d_Mo_due_16 rfl (fun h16 => ?_) (fun h16 => ?_)
    · have hq := hq.trans (if_pos h16)
      exact B_Mo_due_49_12 _ _ _ _ qv1_16 (lv_sub hl [0, 1, 2] rfl) S hq
    · have hq := hq.trans (if_neg h16)
      refine lv_aload_n hx hb d_Mo_due_19 rfl (lv_at hl 0 rfl) ?_
      refine g_Mo_19 hx hb hts hown hK S.1 d_Mo_due_20 ?_
      refine lv_iload_n hx hb d_Mo_due_23 rfl (lv_at hl 2 rfl) ?_
      refine ld_M_4 (k := 12) hx hb hK S.1 (vin_dec (by decide)) (by decide) d_Mo_due_24 ?_
      refine lv_if_eq (tgt := 49) hx hb d_Mo_due_25 rfl (fun h25 => ?_) (fun h25 => ?_)
      · have hq := hq.trans (if_pos h25)
        exact B_Mo_due_49_12 _ _ _ _ qv1_16 (lv_sub hl [0, 1, 2] rfl) S hq
      · have hq := hq.trans (if_neg h25)
        refine lv_iload_n hx hb d_Mo_due_28 rfl (lv_at hl 1 rfl) ?_
        refine lv_if_eq (tgt := 47) hx hb d_Mo_due_29 rfl (fun h29 => ?_) (fun h29 => ?_)
        · have hq := hq.trans (if_pos h29)
          exact B_Mo_due_47_12 _ _ _ (lv_sub hl [0, 2] rfl) S hq
        · have hq := hq.trans (if_neg h29)
          refine lv_aload_n hx hb d_Mo_due_32 rfl (lv_at hl 0 rfl) ?_
          refine g_Mo_16 hx hb hts hown hK S.1 d_Mo_due_33 ?_
          refine lv_iload_n hx hb d_Mo_due_36 rfl (lv_at hl 2 rfl) ?_
          refine ld_M_3 (k := 12) hx hb hK S.1 (vin_dec (by decide)) (by decide) d_Mo_due_37 ?_
          refine lv_aload_n hx hb d_Mo_due_38 rfl (lv_at hl 0 rfl) ?_
          refine g_Mo_16 hx hb hts hown hK S.1 d_Mo_due_39 ?_
          refine lv_iload_n hx hb d_Mo_due_42 rfl (lv_at hl 1 rfl) ?_
          refine ld_M_3 (k := (v1).toNatClampNeg) hx hb hK S.1 qv1_16 rfl d_Mo_due_43 ?_
          refine lv_icmp_gt (tgt := 49) hx hb d_Mo_due_44 rfl (fun h44 => ?_) (fun h44 => ?_)
          · have hq := hq.trans (if_pos h44)
            exact B_Mo_due_49_12 _ _ _ _ qv1_16 (lv_sub hl [0, 1, 2] rfl) S hq
          · have hq := hq.trans (if_neg h44)
            exact B_Mo_due_47_12 _ _ _ (lv_sub hl [0, 2] rfl) S hq
  have B_Mo_due_49_13 : ∀ (v1 : Int32) (H : Heap) (locs : List Loc) (ls : Array Slot), (vp_in v1 16) → lv_has ls 3 [(0, .ref (a 0)), (1, .int v1), (2, .int (13 : Int32))] → St D (wM cI cZ a) A s σ H locs → F = s_Mo_due_49_13 v1 σ → W p l e ({ frames := 2, cells := 0, slots := 0, locals := 43 } : Room) s m args below meth c H locs 0 0 Q (F0 m 49 ls []) := by
    intro v1 H locs ls qv1_16 hl S hq
    refine lv_iinc (k := 2) (v := (12 : Int32)) hx hb d_Mo_due_49 hl rfl (by first | rfl | decide) (by decide) rfl (fun ls hl => ?_)
    refine lv_goto (tgt := 5) hx hb d_Mo_due_52 rfl ?_
    exact B_Mo_due_5_12 _ _ _ _ qv1_16 (lv_sub hl [1, 2, 0] rfl) S hq
  have B_Mo_due_47_13 : ∀ (H : Heap) (locs : List Loc) (ls : Array Slot), lv_has ls 3 [(0, .ref (a 0)), (2, .int (13 : Int32))] → St D (wM cI cZ a) A s σ H locs → F = s_Mo_due_47_13 σ → W p l e ({ frames := 2, cells := 0, slots := 0, locals := 43 } : Room) s m args below meth c H locs 0 0 Q (F0 m 47 ls []) := by
    intro H locs ls hl S hq
    refine lv_iload_n hx hb d_Mo_due_47 rfl (lv_at hl 1 rfl) ?_
    refine lv_istore_n hx hb d_Mo_due_48 rfl hl (by decide) rfl (fun ls hl => ?_)
    exact B_Mo_due_49_13 _ _ _ _ (vin_dec (by decide)) (lv_sub hl [1, 0, 2] rfl) S hq
  have B_Mo_due_5_13 : ∀ (v1 : Int32) (H : Heap) (locs : List Loc) (ls : Array Slot), (vp_in v1 16) → lv_has ls 3 [(0, .ref (a 0)), (1, .int v1), (2, .int (13 : Int32))] → St D (wM cI cZ a) A s σ H locs → F = s_Mo_due_5_13 v1 σ → W p l e ({ frames := 2, cells := 0, slots := 0, locals := 43 } : Room) s m args below meth c H locs 0 0 Q (F0 m 5 ls []) := by
    intro v1 H locs ls qv1_16 hl S hq
    refine lv_iload_n hx hb d_Mo_due_5 rfl (lv_at hl 2 rfl) ?_
    refine lv_iconst (v := 1) hx hb d_Mo_due_6 (by decide) ?_
    refine lv_icmp_le (tgt := 55) hx hb d_Mo_due_7 rfl (fun h9 => absurd h9 (by decide)) (fun _ => ?_)
    refine lv_aload_n hx hb d_Mo_due_10 rfl (lv_at hl 0 rfl) ?_
    refine g_Mo_23 hx hb hts hown hK S.1 d_Mo_due_11 ?_
    refine lv_iload_n hx hb d_Mo_due_14 rfl (lv_at hl 2 rfl) ?_
    refine ld_M_5 (k := 13) hx hb hK S.1 (vin_dec (by decide)) (by decide) d_Mo_due_15 ?_
    refine lv_if_eq (tgt := 49) hx hb d_Mo_due_16 rfl (fun h16 => ?_) (fun h16 => ?_)
    · have hq := hq.trans (if_pos h16)
      exact B_Mo_due_49_13 _ _ _ _ qv1_16 (lv_sub hl [0, 1, 2] rfl) S hq
    · have hq := hq.trans (if_neg h16)
      refine lv_aload_n hx hb d_Mo_due_19 rfl (lv_at hl 0 rfl) ?_
      refine g_Mo_19 hx hb hts hown hK S.1 d_Mo_due_20 ?_
      refine lv_iload_n hx hb d_Mo_due_23 rfl (lv_at hl 2 rfl) ?_
      refine ld_M_4 (k := 13) hx hb hK S.1 (vin_dec (by decide)) (by decide) d_Mo_due_24 ?_
      refine lv_if_eq (tgt := 49) hx hb d_Mo_due_25 rfl (fun h25 => ?_) (fun h25 => ?_)
      · have hq := hq.trans (if_pos h25)
        exact B_Mo_due_49_13 _ _ _ _ qv1_16 (lv_sub hl [0, 1, 2] rfl) S hq
      · have hq := hq.trans (if_neg h25)
        refine lv_iload_n hx hb d_Mo_due_28 rfl (lv_at hl 1 rfl) ?_
        refine lv_if_eq (tgt := 47) hx hb d_Mo_due_29 rfl (fun h29 => ?_) (fun h29 => ?_)
        · have hq := hq.trans (if_pos h29)
          exact B_Mo_due_47_13 _ _ _ (lv_sub hl [0, 2] rfl) S hq
        · have hq := hq.trans (if_neg h29)
          refine lv_aload_n hx hb d_Mo_due_32 rfl (lv_at hl 0 rfl) ?_
          refine g_Mo_16 hx hb hts hown hK S.1 d_Mo_due_33 ?_
          refine lv_iload_n hx hb d_Mo_due_36 rfl (lv_at hl 2 rfl) ?_
          refine ld_M_3 (k := 13) hx hb hK S.1 (vin_dec (by decide)) (by decide) d_Mo_due_37 ?_
          refine lv_aload_n hx hb d_Mo_due_38 rfl (lv_at hl 0 rfl) ?_
          refine g_Mo_16 hx hb hts hown hK S.1 d_Mo_due_39 ?_
          refine lv_iload_n hx hb d_Mo_due_42 rfl (lv_at hl 1 rfl) ?_
          refine ld_M_3 (k := (v1).toNatClampNeg) hx hb hK S.1 qv1_16 rfl d_Mo_due_43 ?_
          refine lv_icmp_gt (tgt := 49) hx hb d_Mo_due_44 rfl (fun h44 => ?_) (fun h44 => ?_)
          · have hq := hq.trans (if_pos h44)
            exact B_Mo_due_49_13 _ _ _ _ qv1_16 (lv_sub hl [0, 1, 2] rfl) S hq
          · have hq := hq.trans (if_neg h44)
            exact B_Mo_due_47_13 _ _ _ (lv_sub hl [0, 2] rfl) S hq
  have B_Mo_due_49_14 : ∀ (v1 : Int32) (H : Heap) (locs : List Loc) (ls : Array Slot), (vp_in v1 16) → lv_has ls 3 [(0, .ref (a 0)), (1, .int v1), (2, .int (14 : Int32))] → St D (wM cI cZ a) A s σ H locs → F = s_Mo_due_49_14 v1 σ → W p l e ({ frames := 2, cells := 0, slots := 0, locals := 43 } : Room) s m args below meth c H locs 0 0 Q (F0 m 49 ls []) := by
    intro v1 H locs ls qv1_16 hl S hq
    refine lv_iinc (k := 2) (v := (13 : Int32)) hx hb d_Mo_due_49 hl rfl (by first | rfl | decide) (by decide) rfl (fun ls hl => ?_)
    refine lv_goto (tgt := 5) hx hb d_Mo_due_52 rfl ?_
    exact B_Mo_due_5_13 _ _ _ _ qv1_16 (lv_sub hl [1, 2, 0] rfl) S hq
  have B_Mo_due_47_14 : ∀ (H : Heap) (locs : List Loc) (ls : Array Slot), lv_has ls 3 [(0, .ref (a 0)), (2, .int (14 : Int32))] → St D (wM cI cZ a) A s σ H locs → F = s_Mo_due_47_14 σ → W p l e ({ frames := 2, cells := 0, slots := 0, locals := 43 } : Room) s m args below meth c H locs 0 0 Q (F0 m 47 ls []) := by
    intro H locs ls hl S hq
    refine lv_iload_n hx hb d_Mo_due_47 rfl (lv_at hl 1 rfl) ?_
    refine lv_istore_n hx hb d_Mo_due_48 rfl hl (by decide) rfl (fun ls hl => ?_)
    exact B_Mo_due_49_14 _ _ _ _ (vin_dec (by decide)) (lv_sub hl [1, 0, 2] rfl) S hq
  have B_Mo_due_5_14 : ∀ (v1 : Int32) (H : Heap) (locs : List Loc) (ls : Array Slot), (vp_in v1 16) → lv_has ls 3 [(0, .ref (a 0)), (1, .int v1), (2, .int (14 : Int32))] → St D (wM cI cZ a) A s σ H locs → F = s_Mo_due_5_14 v1 σ → W p l e ({ frames := 2, cells := 0, slots := 0, locals := 43 } : Room) s m args below meth c H locs 0 0 Q (F0 m 5 ls []) := by
    intro v1 H locs ls qv1_16 hl S hq
    refine lv_iload_n hx hb d_Mo_due_5 rfl (lv_at hl 2 rfl) ?_
    refine lv_iconst (v := 1) hx hb d_Mo_due_6 (by decide) ?_
    refine lv_icmp_le (tgt := 55) hx hb d_Mo_due_7 rfl (fun h9 => absurd h9 (by decide)) (fun _ => ?_)
    refine lv_aload_n hx hb d_Mo_due_10 rfl (lv_at hl 0 rfl) ?_
    refine g_Mo_23 hx hb hts hown hK S.1 d_Mo_due_11 ?_
    refine lv_iload_n hx hb d_Mo_due_14 rfl (lv_at hl 2 rfl) ?_
    refine ld_M_5 (k := 14) hx hb hK S.1 (vin_dec (by decide)) (by decide) d_Mo_due_15 ?_
    refine lv_if_eq (tgt := 49) hx hb d_Mo_due_16 rfl (fun h16 => ?_) (fun h16 => ?_)
    · have hq := hq.trans (if_pos h16)
      exact B_Mo_due_49_14 _ _ _ _ qv1_16 (lv_sub hl [0, 1, 2] rfl) S hq
    · have hq := hq.trans (if_neg h16)
      refine lv_aload_n hx hb d_Mo_due_19 rfl (lv_at hl 0 rfl) ?_
      refine g_Mo_19 hx hb hts hown hK S.1 d_Mo_due_20 ?_
      refine lv_iload_n hx hb d_Mo_due_23 rfl (lv_at hl 2 rfl) ?_
      refine ld_M_4 (k := 14) hx hb hK S.1 (vin_dec (by decide)) (by decide) d_Mo_due_24 ?_
      refine lv_if_eq (tgt := 49) hx hb d_Mo_due_25 rfl (fun h25 => ?_) (fun h25 => ?_)
      · have hq := hq.trans (if_pos h25)
        exact B_Mo_due_49_14 _ _ _ _ qv1_16 (lv_sub hl [0, 1, 2] rfl) S hq
      · have hq := hq.trans (if_neg h25)
        refine lv_iload_n hx hb d_Mo_due_28 rfl (lv_at hl 1 rfl) ?_
        refine lv_if_eq (tgt := 47) hx hb d_Mo_due_29 rfl (fun h29 => ?_) (fun h29 => ?_)
        · have hq := hq.trans (if_pos h29)
          exact B_Mo_due_47_14 _ _ _ (lv_sub hl [0, 2] rfl) S hq
        · have hq := hq.trans (if_neg h29)
          refine lv_aload_n hx hb d_Mo_due_32 rfl (lv_at hl 0 rfl) ?_
          refine g_Mo_16 hx hb hts hown hK S.1 d_Mo_due_33 ?_
          refine lv_iload_n hx hb d_Mo_due_36 rfl (lv_at hl 2 rfl) ?_
          refine ld_M_3 (k := 14) hx hb hK S.1 (vin_dec (by decide)) (by decide) d_Mo_due_37 ?_
          refine lv_aload_n hx hb d_Mo_due_38 rfl (lv_at hl 0 rfl) ?_
          refine g_Mo_16 hx hb hts hown hK S.1 d_Mo_due_39 ?_
          refine lv_iload_n hx hb d_Mo_due_42 rfl (lv_at hl 1 rfl) ?_
          refine ld_M_3 (k := (v1).toNatClampNeg) hx hb hK S.1 qv1_16 rfl d_Mo_due_43 ?_
          refine lv_icmp_gt (tgt := 49) hx hb d_Mo_due_44 rfl (fun h44 => ?_) (fun h44 => ?_)
          · have hq := hq.trans (if_pos h44)
            exact B_Mo_due_49_14 _ _ _ _ qv1_16 (lv_sub hl [0, 1, 2] rfl) S hq
          · have hq := hq.trans (if_neg h44)
            exact B_Mo_due_47_14 _ _ _ (lv_sub hl [0, 2] rfl) S hq
  have B_Mo_due_49_15 : ∀ (v1 : Int32) (H : Heap) (locs : List Loc) (ls : Array Slot), (vp_in v1 16) → lv_has ls 3 [(0, .ref (a 0)), (1, .int v1), (2, .int (15 : Int32))] → St D (wM cI cZ a) A s σ H locs → F = s_Mo_due_49_15 v1 σ → W p l e ({ frames := 2, cells := 0, slots := 0, locals := 43 } : Room) s m args below meth c H locs 0 0 Q (F0 m 49 ls []) := by
    intro v1 H locs ls qv1_16 hl S hq
    refine lv_iinc (k := 2) (v := (14 : Int32)) hx hb d_Mo_due_49 hl rfl (by first | rfl | decide) (by decide) rfl (fun ls hl => ?_)
    refine lv_goto (tgt := 5) hx hb d_Mo_due_52 rfl ?_
    exact B_Mo_due_5_14 _ _ _ _ qv1_16 (lv_sub hl [1, 2, 0] rfl) S hq
  have B_Mo_due_47_15 : ∀ (H : Heap) (locs : List Loc) (ls : Array Slot), lv_has ls 3 [(0, .ref (a 0)), (2, .int (15 : Int32))] → St D (wM cI cZ a) A s σ H locs → F = s_Mo_due_47_15 σ → W p l e ({ frames := 2, cells := 0, slots := 0, locals := 43 } : Room) s m args below meth c H locs 0 0 Q (F0 m 47 ls []) := by
    intro H locs ls hl S hq
    refine lv_iload_n hx hb d_Mo_due_47 rfl (lv_at hl 1 rfl) ?_
    refine lv_istore_n hx hb d_Mo_due_48 rfl hl (by decide) rfl (fun ls hl => ?_)
    exact B_Mo_due_49_15 _ _ _ _ (vin_dec (by decide)) (lv_sub hl [1, 0, 2] rfl) S hq
  have B_Mo_due_5_15 : ∀ (H : Heap) (locs : List Loc) (ls : Array Slot), lv_has ls 3 [(0, .ref (a 0)), (1, .int (0 : Int32)), (2, .int (15 : Int32))] → St D (wM cI cZ a) A s σ H locs → F = s_Mo_due_5_15 σ → W p l e ({ frames := 2, cells := 0, slots := 0, locals := 43 } : Room) s m args below meth c H locs 0 0 Q (F0 m 5 ls []) := by
    intro H locs ls hl S hq
    refine lv_iload_n hx hb d_Mo_due_5 rfl (lv_at hl 2 rfl) ?_
    refine lv_iconst (v := 1) hx hb d_Mo_due_6 (by decide) ?_
    refine lv_icmp_le (tgt := 55) hx hb d_Mo_due_7 rfl (fun h9 => absurd h9 (by decide)) (fun _ => ?_)
    refine lv_aload_n hx hb d_Mo_due_10 rfl (lv_at hl 0 rfl) ?_
    refine g_Mo_23 hx hb hts hown hK S.1 d_Mo_due_11 ?_
    refine lv_iload_n hx hb d_Mo_due_14 rfl (lv_at hl 2 rfl) ?_
    refine ld_M_5 (k := 15) hx hb hK S.1 (vin_dec (by decide)) (by decide) d_Mo_due_15 ?_
    refine lv_if_eq (tgt := 49) hx hb d_Mo_due_16 rfl (fun h16 => ?_) (fun h16 => ?_)
    · have hq := hq.trans (if_pos h16)
      exact B_Mo_due_49_15 _ _ _ _ (vin_dec (by decide)) (lv_sub hl [0, 1, 2] rfl) S hq
    · have hq := hq.trans (if_neg h16)
      refine lv_aload_n hx hb d_Mo_due_19 rfl (lv_at hl 0 rfl) ?_
      refine g_Mo_19 hx hb hts hown hK S.1 d_Mo_due_20 ?_
      refine lv_iload_n hx hb d_Mo_due_23 rfl (lv_at hl 2 rfl) ?_
      refine ld_M_4 (k := 15) hx hb hK S.1 (vin_dec (by decide)) (by decide) d_Mo_due_24 ?_
      refine lv_if_eq (tgt := 49) hx hb d_Mo_due_25 rfl (fun h25 => ?_) (fun h25 => ?_)
      · have hq := hq.trans (if_pos h25)
        exact B_Mo_due_49_15 _ _ _ _ (vin_dec (by decide)) (lv_sub hl [0, 1, 2] rfl) S hq
      · have hq := hq.trans (if_neg h25)
        refine lv_iload_n hx hb d_Mo_due_28 rfl (lv_at hl 1 rfl) ?_
        refine lv_if_eq (tgt := 47) hx hb d_Mo_due_29 rfl (fun _ => ?_) (fun h9 => absurd (by decide) h9)
        exact B_Mo_due_47_15 _ _ _ (lv_sub hl [0, 2] rfl) S hq
  refine lv_iconst (v := 0) hx hb d_Mo_due_0 (by decide) ?_
  refine lv_istore_n hx hb d_Mo_due_1 rfl hl (by decide) rfl (fun ls hl => ?_)
  refine lv_bipush (v := 15) hx hb d_Mo_due_2 (by decide) ?_
  refine lv_istore_n hx hb d_Mo_due_4 rfl hl (by decide) rfl (fun ls hl => ?_)
  exact B_Mo_due_5_15 _ _ _ (lv_sub hl [2, 1, 0] rfl) S hq
set_option maxHeartbeats 4000000 in
set_option maxRecDepth 100000 in
theorem c_Mo_enter (v1 : Int32) (σ : nS) (qv1_16 : vp_in v1 16) (hok : o_Mo_enter v1 σ) : CtV l D cI cZ (wM cI cZ a) exM y_Mo_enter b_Mo_enter 2 { frames := 1, cells := 0, slots := 0, locals := 21 } [.ref (a 0), .int v1] σ (s_Mo_enter v1 σ) := by
  generalize hF : s_Mo_enter v1 σ = F
  refine metV exM_ok (by decide) (Nat.le_of_ble_eq_true rfl) (fun p e s m args below meth c A Q ls X S hl ret => ?_)
  have hq := hF.symm
  obtain ⟨hx, hb, hml, hown, hts, hK, hA, hE, hlk, hEo⟩ := id X
  have hl : lv_has ls 2 [(0, .ref (a 0)), (1, .int v1)] := hl
  refine lv_aload_n hx hb d_Mo_enter_0 rfl (lv_at hl 0 rfl) ?_
  refine g_Mo_26 hx hb hts hown hK S.1 d_Mo_enter_1 ?_
  refine lv_iload_n hx hb d_Mo_enter_4 rfl (lv_at hl 1 rfl) ?_
  refine lv_iconst (v := 1) hx hb d_Mo_enter_5 (by decide) ?_
  refine st_M_6 (k := (v1).toNatClampNeg) (b := true) hx hb hK S qv1_16 rfl d_Mo_enter_6 (fun H locs S => ?_)
  refine lv_aload_n hx hb d_Mo_enter_7 rfl (lv_at hl 0 rfl) ?_
  refine g_Mo_23 hx hb hts hown hK S.1 d_Mo_enter_8 ?_
  refine lv_iload_n hx hb d_Mo_enter_11 rfl (lv_at hl 1 rfl) ?_
  refine lv_iconst (v := 0) hx hb d_Mo_enter_12 (by decide) ?_
  refine st_M_5 (k := (v1).toNatClampNeg) (b := false) hx hb hK S qv1_16 rfl d_Mo_enter_13 (fun H locs S => ?_)
  refine lv_aload_n hx hb d_Mo_enter_14 rfl (lv_at hl 0 rfl) ?_
  refine lv_iload_n hx hb d_Mo_enter_15 rfl (lv_at hl 1 rfl) ?_
  refine p_Mo_74 hx hb hts hown hK S d_Mo_enter_16 (fun H locs S => ?_)
  refine lv_aload_n hx hb d_Mo_enter_19 rfl (lv_at hl 0 rfl) ?_
  refine g_Mo_13 hx hb hts hown hK S.1 d_Mo_enter_20 ?_
  refine lv_bipush (v := 15) hx hb d_Mo_enter_23 (by decide) ?_
  refine lv_aload_n hx hb d_Mo_enter_25 rfl (lv_at hl 0 rfl) ?_
  refine lv_iconst (v := 4) hx hb d_Mo_enter_26 (by decide) ?_
  refine lv_iload_n hx hb d_Mo_enter_27 rfl (lv_at hl 1 rfl) ?_
  refine lv_imul hx hb d_Mo_enter_28 ?_
  obtain ⟨g1, hok⟩ := hok
  refine callVIp X S hl (c_Mo_load ((4 : Int32) * v1) _ g1) v_Mo_77 0 6 ⟨rfl, rfl⟩ (rk_dec (by decide)) rfl rfl (Nat.le_of_ble_eq_true rfl) d_Mo_enter_29 (fun H locs S => ?_)
  refine lv_bipush (v := -2) hx hb d_Mo_enter_32 (by decide) ?_
  refine lv_iand hx hb d_Mo_enter_34 ?_
  refine st_M_2 (k := 15) hx hb hK S (vin_dec (by decide)) (by decide) d_Mo_enter_35 (fun H locs S => ?_)
  exact ret _ _ _ _ _ S hq d_Mo_enter_36
set_option maxHeartbeats 4000000 in
set_option maxRecDepth 100000 in
theorem c_Mo_status (v1 : Bool) (σ : nS) : CtI l D cI cZ (wM cI cZ a) exM y_Mo_status b_Mo_status 2 { frames := 0, cells := 0, slots := 0, locals := 0 } [.ref (a 0), .int (bI v1)] σ (s_Mo_status v1 σ, σ) := by
  generalize hF : s_Mo_status v1 σ = F
  refine metIp exM_ok (by decide) (Nat.le_of_ble_eq_true rfl) (fun p e s m args below meth c A Q ls X S hl ret => ?_)
  have hq := hF.symm
  obtain ⟨hx, hb, hml, hown, hts, hK, hA, hE, hlk, hEo⟩ := id X
  have hl : lv_has ls 2 [(0, .ref (a 0)), (1, .int (bI v1))] := hl
  have B_Mo_status_66 : ∀ (k0 : Int32) (k1 : Int32) (H : Heap) (locs : List Loc) (ls : Array Slot), lv_has ls 2 [(0, .ref (a 0))] → St D (wM cI cZ a) A s σ H locs → F = s_Mo_status_66 k0 k1 σ → W p l e ({ frames := 0, cells := 0, slots := 0, locals := 0 } : Room) s m args below meth c H locs 0 0 Q (F0 m 66 ls [.int k1, .int k0]) := by
    intro k0 k1 H locs ls hl S hq
    refine lv_ior hx hb d_Mo_status_66 ?_
    refine lv_aload_n hx hb d_Mo_status_67 rfl (lv_at hl 0 rfl) ?_
    refine g_Mo_74 hx hb hts hown hK S.1 d_Mo_status_68 ?_
    refine lv_ior hx hb d_Mo_status_71 ?_
    exact ret _ _ _ _ _ S hq d_Mo_status_72
  have B_Mo_status_54 : ∀ (v1 : Bool) (k0 : Int32) (k1 : Int32) (H : Heap) (locs : List Loc) (ls : Array Slot), lv_has ls 2 [(0, .ref (a 0)), (1, .int (bI v1))] → St D (wM cI cZ a) A s σ H locs → F = s_Mo_status_54 v1 k0 k1 σ → W p l e ({ frames := 0, cells := 0, slots := 0, locals := 0 } : Room) s m args below meth c H locs 0 0 Q (F0 m 54 ls [.int k1, .int k0]) := by
    intro v1 k0 k1 H locs ls hl S hq
    refine lv_ior hx hb d_Mo_status_54 ?_
    refine lv_iload_n hx hb d_Mo_status_55 rfl (lv_at hl 1 rfl) ?_
    refine r_ifeqZ (tgt := 65) hx hb d_Mo_status_56 rfl (fun h56 => ?_) (fun h56 => ?_)
    · have hq := hq.trans (if_neg h56)
      refine lv_iconst (v := 0) hx hb d_Mo_status_65 (by decide) ?_
      exact B_Mo_status_66 _ _ _ _ _ (lv_sub hl [0] rfl) S hq
    · have hq := hq.trans (if_pos h56)
      refine lv_sipush (v := 512) hx hb d_Mo_status_59 (by decide) ?_
      refine lv_goto (tgt := 66) hx hb d_Mo_status_62 rfl ?_
      exact B_Mo_status_66 _ _ _ _ _ (lv_sub hl [0] rfl) S hq
  have B_Mo_status_40 : ∀ (v1 : Bool) (k0 : Int32) (k1 : Int32) (H : Heap) (locs : List Loc) (ls : Array Slot), lv_has ls 2 [(0, .ref (a 0)), (1, .int (bI v1))] → St D (wM cI cZ a) A s σ H locs → F = s_Mo_status_40 v1 k0 k1 σ → W p l e ({ frames := 0, cells := 0, slots := 0, locals := 0 } : Room) s m args below meth c H locs 0 0 Q (F0 m 40 ls [.int k1, .int k0]) := by
    intro v1 k0 k1 H locs ls hl S hq
    refine lv_ior hx hb d_Mo_status_40 ?_
    refine lv_aload_n hx hb d_Mo_status_41 rfl (lv_at hl 0 rfl) ?_
    refine g_Mo_92 hx hb hts hown hK S.1 d_Mo_status_42 ?_
    refine lv_if_eq (tgt := 53) hx hb d_Mo_status_45 rfl (fun h45 => ?_) (fun h45 => ?_)
    · have hq := hq.trans (if_pos h45)
      refine lv_iconst (v := 0) hx hb d_Mo_status_53 (by decide) ?_
      exact B_Mo_status_54 _ _ _ _ _ _ (lv_sub hl [0, 1] rfl) S hq
    · have hq := hq.trans (if_neg h45)
      refine lv_ldc (v := 268435456) hx hb hown (hts _ k_8) d_Mo_status_48 ?_
      refine lv_goto (tgt := 54) hx hb d_Mo_status_50 rfl ?_
      exact B_Mo_status_54 _ _ _ _ _ _ (lv_sub hl [0, 1] rfl) S hq
  have B_Mo_status_26 : ∀ (v1 : Bool) (k0 : Int32) (k1 : Int32) (H : Heap) (locs : List Loc) (ls : Array Slot), lv_has ls 2 [(0, .ref (a 0)), (1, .int (bI v1))] → St D (wM cI cZ a) A s σ H locs → F = s_Mo_status_26 v1 k0 k1 σ → W p l e ({ frames := 0, cells := 0, slots := 0, locals := 0 } : Room) s m args below meth c H locs 0 0 Q (F0 m 26 ls [.int k1, .int k0]) := by
    intro v1 k0 k1 H locs ls hl S hq
    refine lv_ior hx hb d_Mo_status_26 ?_
    refine lv_aload_n hx hb d_Mo_status_27 rfl (lv_at hl 0 rfl) ?_
    refine g_Mo_88 hx hb hts hown hK S.1 d_Mo_status_28 ?_
    refine lv_if_eq (tgt := 39) hx hb d_Mo_status_31 rfl (fun h31 => ?_) (fun h31 => ?_)
    · have hq := hq.trans (if_pos h31)
      refine lv_iconst (v := 0) hx hb d_Mo_status_39 (by decide) ?_
      exact B_Mo_status_40 _ _ _ _ _ _ (lv_sub hl [0, 1] rfl) S hq
    · have hq := hq.trans (if_neg h31)
      refine lv_ldc (v := 536870912) hx hb hown (hts _ k_9) d_Mo_status_34 ?_
      refine lv_goto (tgt := 40) hx hb d_Mo_status_36 rfl ?_
      exact B_Mo_status_40 _ _ _ _ _ _ (lv_sub hl [0, 1] rfl) S hq
  have B_Mo_status_13 : ∀ (v1 : Bool) (k0 : Int32) (H : Heap) (locs : List Loc) (ls : Array Slot), lv_has ls 2 [(0, .ref (a 0)), (1, .int (bI v1))] → St D (wM cI cZ a) A s σ H locs → F = s_Mo_status_13 v1 k0 σ → W p l e ({ frames := 0, cells := 0, slots := 0, locals := 0 } : Room) s m args below meth c H locs 0 0 Q (F0 m 13 ls [.int k0]) := by
    intro v1 k0 H locs ls hl S hq
    refine lv_aload_n hx hb d_Mo_status_13 rfl (lv_at hl 0 rfl) ?_
    refine g_Mo_84 hx hb hts hown hK S.1 d_Mo_status_14 ?_
    refine lv_if_eq (tgt := 25) hx hb d_Mo_status_17 rfl (fun h17 => ?_) (fun h17 => ?_)
    · have hq := hq.trans (if_pos h17)
      refine lv_iconst (v := 0) hx hb d_Mo_status_25 (by decide) ?_
      exact B_Mo_status_26 _ _ _ _ _ _ (lv_sub hl [0, 1] rfl) S hq
    · have hq := hq.trans (if_neg h17)
      refine lv_ldc (v := 1073741824) hx hb hown (hts _ k_10) d_Mo_status_20 ?_
      refine lv_goto (tgt := 26) hx hb d_Mo_status_22 rfl ?_
      exact B_Mo_status_26 _ _ _ _ _ _ (lv_sub hl [0, 1] rfl) S hq
  refine lv_aload_n hx hb d_Mo_status_0 rfl (lv_at hl 0 rfl) ?_
  refine g_Mo_80 hx hb hts hown hK S.1 d_Mo_status_1 ?_
  refine lv_if_eq (tgt := 12) hx hb d_Mo_status_4 rfl (fun h4 => ?_) (fun h4 => ?_)
  · have hq := hq.trans (if_pos h4)
    refine lv_iconst (v := 0) hx hb d_Mo_status_12 (by decide) ?_
    exact B_Mo_status_13 _ _ _ _ _ (lv_sub hl [0, 1] rfl) S hq
  · have hq := hq.trans (if_neg h4)
    refine lv_ldc (v := -2147483648) hx hb hown (hts _ k_11) d_Mo_status_7 ?_
    refine lv_goto (tgt := 13) hx hb d_Mo_status_9 rfl ?_
    exact B_Mo_status_13 _ _ _ _ _ (lv_sub hl [0, 1] rfl) S hq
set_option maxHeartbeats 4000000 in
set_option maxRecDepth 100000 in
theorem c_Mo_isFrame (v0 : Int32) (σ : nS) : CtZ l D cI cZ (wM cI cZ a) exM y_Mo_isFrame b_Mo_isFrame 1 { frames := 0, cells := 0, slots := 0, locals := 0 } [.int v0] σ (s_Mo_isFrame v0, σ) := by
  generalize hF : s_Mo_isFrame v0 = F
  refine metZp exM_ok (by decide) (Nat.le_of_ble_eq_true rfl) (fun p e s m args below meth c A Q ls X S hl ret => ?_)
  have hq := hF.symm
  obtain ⟨hx, hb, hml, hown, hts, hK, hA, hE, hlk, hEo⟩ := id X
  have hl : lv_has ls 1 [(0, .int v0)] := hl
  have B_Mo_isFrame_21 : ∀ (H : Heap) (locs : List Loc) (ls : Array Slot), lv_has ls 1 [] → St D (wM cI cZ a) A s σ H locs → F = s_Mo_isFrame_21 → W p l e ({ frames := 0, cells := 0, slots := 0, locals := 0 } : Room) s m args below meth c H locs 0 0 Q (F0 m 21 ls []) := by
    intro H locs ls hl S hq
    refine lv_iconst (v := 0) hx hb d_Mo_isFrame_21 (by decide) ?_
    exact ret _ _ _ _ false S hq d_Mo_isFrame_22
  refine lv_iload_n hx hb d_Mo_isFrame_0 rfl (lv_at hl 0 rfl) ?_
  refine lv_if_lt (tgt := 21) hx hb d_Mo_isFrame_1 rfl (fun h1 => ?_) (fun h1 => ?_)
  · have hq := hq.trans (if_pos h1)
    exact B_Mo_isFrame_21 _ _ _ (lv_sub hl [] rfl) S hq
  · have hq := hq.trans (if_neg h1)
    refine lv_iload_n hx hb d_Mo_isFrame_4 rfl (lv_at hl 0 rfl) ?_
    refine lv_sipush (v := 992) hx hb d_Mo_isFrame_5 (by decide) ?_
    refine lv_icmp_gt (tgt := 21) hx hb d_Mo_isFrame_8 rfl (fun h8 => ?_) (fun h8 => ?_)
    · have hq := hq.trans (if_pos h8)
      exact B_Mo_isFrame_21 _ _ _ (lv_sub hl [] rfl) S hq
    · have hq := hq.trans (if_neg h8)
      refine lv_iload_n hx hb d_Mo_isFrame_11 rfl (lv_at hl 0 rfl) ?_
      refine lv_iconst (v := 3) hx hb d_Mo_isFrame_12 (by decide) ?_
      refine lv_iand hx hb d_Mo_isFrame_13 ?_
      refine lv_if_ne (tgt := 21) hx hb d_Mo_isFrame_14 rfl (fun h14 => ?_) (fun h14 => ?_)
      · have hq := hq.trans (if_neg h14)
        exact B_Mo_isFrame_21 _ _ _ (lv_sub hl [] rfl) S hq
      · have hq := hq.trans (if_pos h14)
        refine lv_iconst (v := 1) hx hb d_Mo_isFrame_17 (by decide) ?_
        refine lv_goto (tgt := 22) hx hb d_Mo_isFrame_18 rfl ?_
        exact ret _ _ _ _ true S hq d_Mo_isFrame_22
set_option maxHeartbeats 4000000 in
set_option maxRecDepth 100000 in
theorem c_Mo_take (v1 : Int32) (σ : nS) (qv1_16 : vp_in v1 16) (hok : o_Mo_take v1 σ) : CtV l D cI cZ (wM cI cZ a) exM y_Mo_take b_Mo_take 5 { frames := 2, cells := 0, slots := 0, locals := 42 } [.ref (a 0), .int v1] σ (s_Mo_take v1 σ) := by
  generalize hF : s_Mo_take v1 σ = F
  refine metV exM_ok (by decide) (Nat.le_of_ble_eq_true rfl) (fun p e s m args below meth c A Q ls X S hl ret => ?_)
  have hq := hF.symm
  obtain ⟨hx, hb, hml, hown, hts, hK, hA, hE, hlk, hEo⟩ := id X
  have hl : lv_has ls 5 [(0, .ref (a 0)), (1, .int v1)] := hl
  have B_Mo_take_170 : ∀ (v1 : Int32) (k2 : Int32) (σ : nS) (H : Heap) (locs : List Loc) (ls : Array Slot), (vp_in v1 16) → (o_Mo_take_170 v1 k2 σ) → lv_has ls 5 [(0, .ref (a 0)), (1, .int v1)] → St D (wM cI cZ a) A s σ H locs → F = s_Mo_take_170 v1 k2 σ → W p l e ({ frames := 2, cells := 0, slots := 0, locals := 42 } : Room) s m args below meth c H locs 0 0 Q (F0 m 170 ls [.int k2, .int (14 : Int32), .ref (a 2)]) := by
    intro v1 k2 σ H locs ls qv1_16 hok hl S hq
    refine st_M_2 (k := 14) hx hb hK S (vin_dec (by decide)) (by decide) d_Mo_take_170 (fun H locs S => ?_)
    refine lv_aload_n hx hb d_Mo_take_171 rfl (lv_at hl 0 rfl) ?_
    refine lv_iload_n hx hb d_Mo_take_172 rfl (lv_at hl 1 rfl) ?_
    obtain ⟨g1, hok⟩ := hok
    refine callVV X S hl (c_Mo_enter v1 _ qv1_16 g1) v_Mo_110 0 6 ⟨rfl, rfl⟩ (rk_dec (by decide)) rfl rfl (Nat.le_of_ble_eq_true rfl) d_Mo_take_173 (fun σ1 H locs e1 S => ?_)
    have hq := hq.trans (ap1_eq e1)
    have hok := ok_ap1 e1 hok
    refine lv_aload_n hx hb d_Mo_take_176 rfl (lv_at hl 0 rfl) ?_
    refine lv_dup hx hb d_Mo_take_177 rfl ?_
    refine g_Mo_114 hx hb hts hown hK S.1 d_Mo_take_178 ?_
    refine lv_iconst (v := 1) hx hb d_Mo_take_181 (by decide) ?_
    refine lv_iadd hx hb d_Mo_take_182 ?_
    refine p_Mo_114 hx hb hts hown hK S d_Mo_take_183 (fun H locs S => ?_)
    exact ret _ _ _ _ _ S hq d_Mo_take_186
  have B_Mo_take_55_4 : ∀ (v1 : Int32) (v2 : Bool) (v3 : Int32) (σ : nS) (H : Heap) (locs : List Loc) (ls : Array Slot), (vp_in v1 16) → (o_Mo_take_55_4 v1 v2 v3 σ) → lv_has ls 5 [(0, .ref (a 0)), (1, .int v1), (2, .int (bI v2)), (3, .int v3), (4, .int (4 : Int32))] → St D (wM cI cZ a) A s σ H locs → F = s_Mo_take_55_4 v1 v2 v3 σ → W p l e ({ frames := 2, cells := 0, slots := 0, locals := 42 } : Room) s m args below meth c H locs 0 0 Q (F0 m 55 ls []) := by
    intro v1 v2 v3 σ H locs ls qv1_16 hok hl S hq
    refine lv_iload hx hb d_Mo_take_55 (lv_at hl 4 rfl) ?_
    refine lv_iconst (v := 4) hx hb d_Mo_take_57 (by decide) ?_
    refine lv_icmp_ge (tgt := 84) hx hb d_Mo_take_58 rfl (fun _ => ?_) (fun h9 => absurd (by decide) h9)
    refine lv_aload_n hx hb d_Mo_take_84 rfl (lv_at hl 0 rfl) ?_
    refine lv_iload_n hx hb d_Mo_take_85 rfl (lv_at hl 3 rfl) ?_
    refine lv_bipush (v := 16) hx hb d_Mo_take_86 (by decide) ?_
    refine lv_iadd hx hb d_Mo_take_88 ?_
    refine lv_aload_n hx hb d_Mo_take_89 rfl (lv_at hl 0 rfl) ?_
    refine g_Mo_13 hx hb hts hown hK S.1 d_Mo_take_90 ?_
    refine lv_bipush (v := 12) hx hb d_Mo_take_93 (by decide) ?_
    refine ld_M_2 (k := 12) hx hb hK S.1 (vin_dec (by decide)) (by decide) d_Mo_take_95 ?_
    obtain ⟨g2, hok⟩ := hok
    refine callVV X S hl (c_Mo_store (v3 + (16 : Int32)) (σ 0 12) _ g2) v_Mo_102 0 6 ⟨rfl, rfl⟩ (rk_dec (by decide)) rfl rfl (Nat.le_of_ble_eq_true rfl) d_Mo_take_96 (fun σ1 H locs e1 S => ?_)
    have hq := hq.trans (ap1_eq e1)
    have hok := ok_ap1 e1 hok
    refine lv_aload_n hx hb d_Mo_take_99 rfl (lv_at hl 0 rfl) ?_
    refine lv_iload_n hx hb d_Mo_take_100 rfl (lv_at hl 3 rfl) ?_
    refine lv_bipush (v := 20) hx hb d_Mo_take_101 (by decide) ?_
    refine lv_iadd hx hb d_Mo_take_103 ?_
    refine lv_aload_n hx hb d_Mo_take_104 rfl (lv_at hl 0 rfl) ?_
    refine g_Mo_13 hx hb hts hown hK S.1 d_Mo_take_105 ?_
    refine lv_bipush (v := 14) hx hb d_Mo_take_108 (by decide) ?_
    refine ld_M_2 (k := 14) hx hb hK S.1 (vin_dec (by decide)) (by decide) d_Mo_take_110 ?_
    obtain ⟨g3, hok⟩ := hok
    refine callVV X S hl (c_Mo_store (v3 + (20 : Int32)) (σ1 0 14) _ g3) v_Mo_102 0 6 ⟨rfl, rfl⟩ (rk_dec (by decide)) rfl rfl (Nat.le_of_ble_eq_true rfl) d_Mo_take_111 (fun σ2 H locs e2 S => ?_)
    have hq := hq.trans (ap1_eq e2)
    have hok := ok_ap1 e2 hok
    refine lv_aload_n hx hb d_Mo_take_114 rfl (lv_at hl 0 rfl) ?_
    refine lv_iload_n hx hb d_Mo_take_115 rfl (lv_at hl 3 rfl) ?_
    refine lv_bipush (v := 24) hx hb d_Mo_take_116 (by decide) ?_
    refine lv_iadd hx hb d_Mo_take_118 ?_
    refine lv_aload_n hx hb d_Mo_take_119 rfl (lv_at hl 0 rfl) ?_
    refine g_Mo_13 hx hb hts hown hK S.1 d_Mo_take_120 ?_
    refine lv_bipush (v := 15) hx hb d_Mo_take_123 (by decide) ?_
    refine ld_M_2 (k := 15) hx hb hK S.1 (vin_dec (by decide)) (by decide) d_Mo_take_125 ?_
    obtain ⟨g4, hok⟩ := hok
    refine callVV X S hl (c_Mo_store (v3 + (24 : Int32)) (σ2 0 15) _ g4) v_Mo_102 0 6 ⟨rfl, rfl⟩ (rk_dec (by decide)) rfl rfl (Nat.le_of_ble_eq_true rfl) d_Mo_take_126 (fun σ3 H locs e3 S => ?_)
    have hq := hq.trans (ap1_eq e3)
    have hok := ok_ap1 e3 hok
    refine lv_aload_n hx hb d_Mo_take_129 rfl (lv_at hl 0 rfl) ?_
    refine lv_iload_n hx hb d_Mo_take_130 rfl (lv_at hl 3 rfl) ?_
    refine lv_bipush (v := 28) hx hb d_Mo_take_131 (by decide) ?_
    refine lv_iadd hx hb d_Mo_take_133 ?_
    refine lv_aload_n hx hb d_Mo_take_134 rfl (lv_at hl 0 rfl) ?_
    refine lv_iload_n hx hb d_Mo_take_135 rfl (lv_at hl 2 rfl) ?_
    refine callVIp X S hl (c_Mo_status v2 _) v_Mo_106 0 6 ⟨rfl, rfl⟩ (rk_dec (by decide)) rfl rfl (Nat.le_of_ble_eq_true rfl) d_Mo_take_136 (fun H locs S => ?_)
    obtain ⟨g5, hok⟩ := hok
    refine callVV X S hl (c_Mo_store (v3 + (28 : Int32)) (s_Mo_status v2 σ3) _ g5) v_Mo_102 0 6 ⟨rfl, rfl⟩ (rk_dec (by decide)) rfl rfl (Nat.le_of_ble_eq_true rfl) d_Mo_take_139 (fun σ4 H locs e4 S => ?_)
    have hq := hq.trans (ap1_eq e4)
    have hok := ok_ap1 e4 hok
    refine lv_aload_n hx hb d_Mo_take_142 rfl (lv_at hl 0 rfl) ?_
    refine g_Mo_13 hx hb hts hown hK S.1 d_Mo_take_143 ?_
    refine lv_bipush (v := 13) hx hb d_Mo_take_146 (by decide) ?_
    refine lv_iload_n hx hb d_Mo_take_148 rfl (lv_at hl 3 rfl) ?_
    refine st_M_2 (k := 13) hx hb hK S (vin_dec (by decide)) (by decide) d_Mo_take_149 (fun H locs S => ?_)
    refine lv_aload_n hx hb d_Mo_take_150 rfl (lv_at hl 0 rfl) ?_
    refine g_Mo_13 hx hb hts hown hK S.1 d_Mo_take_151 ?_
    refine lv_bipush (v := 14) hx hb d_Mo_take_154 (by decide) ?_
    refine lv_aload_n hx hb d_Mo_take_156 rfl (lv_at hl 0 rfl) ?_
    refine g_Mo_74 hx hb hts hown hK S.1 d_Mo_take_157 ?_
    refine lv_if_ne (tgt := 168) hx hb d_Mo_take_160 rfl (fun h160 => ?_) (fun h160 => ?_)
    · have hq := hq.trans (if_neg h160)
      have hok := ok_neg h160 hok
      refine lv_bipush (v := -15) hx hb d_Mo_take_168 (by decide) ?_
      exact B_Mo_take_170 _ _ _ _ _ _ qv1_16 hok (lv_sub hl [0, 1] rfl) S hq
    · have hq := hq.trans (if_pos h160)
      have hok := ok_pos h160 hok
      refine lv_bipush (v := -7) hx hb d_Mo_take_163 (by decide) ?_
      refine lv_goto (tgt := 170) hx hb d_Mo_take_165 rfl ?_
      exact B_Mo_take_170 _ _ _ _ _ _ qv1_16 hok (lv_sub hl [0, 1] rfl) S hq
  have B_Mo_take_55_3 : ∀ (v1 : Int32) (v2 : Bool) (v3 : Int32) (σ : nS) (H : Heap) (locs : List Loc) (ls : Array Slot), (vp_in v1 16) → (o_Mo_take_55_3 v1 v2 v3 σ) → lv_has ls 5 [(0, .ref (a 0)), (1, .int v1), (2, .int (bI v2)), (3, .int v3), (4, .int (3 : Int32))] → St D (wM cI cZ a) A s σ H locs → F = s_Mo_take_55_3 v1 v2 v3 σ → W p l e ({ frames := 2, cells := 0, slots := 0, locals := 42 } : Room) s m args below meth c H locs 0 0 Q (F0 m 55 ls []) := by
    intro v1 v2 v3 σ H locs ls qv1_16 hok hl S hq
    refine lv_iload hx hb d_Mo_take_55 (lv_at hl 4 rfl) ?_
    refine lv_iconst (v := 4) hx hb d_Mo_take_57 (by decide) ?_
    refine lv_icmp_ge (tgt := 84) hx hb d_Mo_take_58 rfl (fun h9 => absurd h9 (by decide)) (fun _ => ?_)
    refine lv_aload_n hx hb d_Mo_take_61 rfl (lv_at hl 0 rfl) ?_
    refine lv_iload_n hx hb d_Mo_take_62 rfl (lv_at hl 3 rfl) ?_
    refine lv_iconst (v := 4) hx hb d_Mo_take_63 (by decide) ?_
    refine lv_iload hx hb d_Mo_take_64 (lv_at hl 4 rfl) ?_
    refine lv_imul hx hb d_Mo_take_66 ?_
    refine r_ci (v := 12) (by decide) ?_
    refine lv_iadd hx hb d_Mo_take_67 ?_
    refine lv_aload_n hx hb d_Mo_take_68 rfl (lv_at hl 0 rfl) ?_
    refine g_Mo_13 hx hb hts hown hK S.1 d_Mo_take_69 ?_
    refine lv_iload hx hb d_Mo_take_72 (lv_at hl 4 rfl) ?_
    refine ld_M_2 (k := 3) hx hb hK S.1 (vin_dec (by decide)) (by decide) d_Mo_take_74 ?_
    obtain ⟨g6, hok⟩ := hok
    refine callVV X S hl (c_Mo_store (v3 + (12 : Int32)) (σ 0 3) _ g6) v_Mo_102 0 6 ⟨rfl, rfl⟩ (rk_dec (by decide)) rfl rfl (Nat.le_of_ble_eq_true rfl) d_Mo_take_75 (fun σ1 H locs e1 S => ?_)
    have hq := hq.trans (ap1_eq e1)
    have hok := ok_ap1 e1 hok
    refine lv_iinc (k := 4) (v := (4 : Int32)) hx hb d_Mo_take_78 hl rfl (by first | rfl | decide) (by decide) rfl (fun ls hl => ?_)
    refine lv_goto (tgt := 55) hx hb d_Mo_take_81 rfl ?_
    exact B_Mo_take_55_4 _ _ _ _ _ _ _ qv1_16 hok (lv_sub hl [1, 2, 3, 4, 0] rfl) S hq
  have B_Mo_take_55_2 : ∀ (v1 : Int32) (v2 : Bool) (v3 : Int32) (σ : nS) (H : Heap) (locs : List Loc) (ls : Array Slot), (vp_in v1 16) → (o_Mo_take_55_2 v1 v2 v3 σ) → lv_has ls 5 [(0, .ref (a 0)), (1, .int v1), (2, .int (bI v2)), (3, .int v3), (4, .int (2 : Int32))] → St D (wM cI cZ a) A s σ H locs → F = s_Mo_take_55_2 v1 v2 v3 σ → W p l e ({ frames := 2, cells := 0, slots := 0, locals := 42 } : Room) s m args below meth c H locs 0 0 Q (F0 m 55 ls []) := by
    intro v1 v2 v3 σ H locs ls qv1_16 hok hl S hq
    refine lv_iload hx hb d_Mo_take_55 (lv_at hl 4 rfl) ?_
    refine lv_iconst (v := 4) hx hb d_Mo_take_57 (by decide) ?_
    refine lv_icmp_ge (tgt := 84) hx hb d_Mo_take_58 rfl (fun h9 => absurd h9 (by decide)) (fun _ => ?_)
    refine lv_aload_n hx hb d_Mo_take_61 rfl (lv_at hl 0 rfl) ?_
    refine lv_iload_n hx hb d_Mo_take_62 rfl (lv_at hl 3 rfl) ?_
    refine lv_iconst (v := 4) hx hb d_Mo_take_63 (by decide) ?_
    refine lv_iload hx hb d_Mo_take_64 (lv_at hl 4 rfl) ?_
    refine lv_imul hx hb d_Mo_take_66 ?_
    refine r_ci (v := 8) (by decide) ?_
    refine lv_iadd hx hb d_Mo_take_67 ?_
    refine lv_aload_n hx hb d_Mo_take_68 rfl (lv_at hl 0 rfl) ?_
    refine g_Mo_13 hx hb hts hown hK S.1 d_Mo_take_69 ?_
    refine lv_iload hx hb d_Mo_take_72 (lv_at hl 4 rfl) ?_
    refine ld_M_2 (k := 2) hx hb hK S.1 (vin_dec (by decide)) (by decide) d_Mo_take_74 ?_
    obtain ⟨g7, hok⟩ := hok
    refine callVV X S hl (c_Mo_store (v3 + (8 : Int32)) (σ 0 2) _ g7) v_Mo_102 0 6 ⟨rfl, rfl⟩ (rk_dec (by decide)) rfl rfl (Nat.le_of_ble_eq_true rfl) d_Mo_take_75 (fun σ1 H locs e1 S => ?_)
    have hq := hq.trans (ap1_eq e1)
    have hok := ok_ap1 e1 hok
    refine lv_iinc (k := 4) (v := (3 : Int32)) hx hb d_Mo_take_78 hl rfl (by first | rfl | decide) (by decide) rfl (fun ls hl => ?_)
    refine lv_goto (tgt := 55) hx hb d_Mo_take_81 rfl ?_
    exact B_Mo_take_55_3 _ _ _ _ _ _ _ qv1_16 hok (lv_sub hl [1, 2, 3, 4, 0] rfl) S hq
  have B_Mo_take_55_1 : ∀ (v1 : Int32) (v2 : Bool) (v3 : Int32) (σ : nS) (H : Heap) (locs : List Loc) (ls : Array Slot), (vp_in v1 16) → (o_Mo_take_55_1 v1 v2 v3 σ) → lv_has ls 5 [(0, .ref (a 0)), (1, .int v1), (2, .int (bI v2)), (3, .int v3), (4, .int (1 : Int32))] → St D (wM cI cZ a) A s σ H locs → F = s_Mo_take_55_1 v1 v2 v3 σ → W p l e ({ frames := 2, cells := 0, slots := 0, locals := 42 } : Room) s m args below meth c H locs 0 0 Q (F0 m 55 ls []) := by
    intro v1 v2 v3 σ H locs ls qv1_16 hok hl S hq
    refine lv_iload hx hb d_Mo_take_55 (lv_at hl 4 rfl) ?_
    refine lv_iconst (v := 4) hx hb d_Mo_take_57 (by decide) ?_
    refine lv_icmp_ge (tgt := 84) hx hb d_Mo_take_58 rfl (fun h9 => absurd h9 (by decide)) (fun _ => ?_)
    refine lv_aload_n hx hb d_Mo_take_61 rfl (lv_at hl 0 rfl) ?_
    refine lv_iload_n hx hb d_Mo_take_62 rfl (lv_at hl 3 rfl) ?_
    refine lv_iconst (v := 4) hx hb d_Mo_take_63 (by decide) ?_
    refine lv_iload hx hb d_Mo_take_64 (lv_at hl 4 rfl) ?_
    refine lv_imul hx hb d_Mo_take_66 ?_
    refine r_ci (v := 4) (by decide) ?_
    refine lv_iadd hx hb d_Mo_take_67 ?_
    refine lv_aload_n hx hb d_Mo_take_68 rfl (lv_at hl 0 rfl) ?_
    refine g_Mo_13 hx hb hts hown hK S.1 d_Mo_take_69 ?_
    refine lv_iload hx hb d_Mo_take_72 (lv_at hl 4 rfl) ?_
    refine ld_M_2 (k := 1) hx hb hK S.1 (vin_dec (by decide)) (by decide) d_Mo_take_74 ?_
    obtain ⟨g8, hok⟩ := hok
    refine callVV X S hl (c_Mo_store (v3 + (4 : Int32)) (σ 0 1) _ g8) v_Mo_102 0 6 ⟨rfl, rfl⟩ (rk_dec (by decide)) rfl rfl (Nat.le_of_ble_eq_true rfl) d_Mo_take_75 (fun σ1 H locs e1 S => ?_)
    have hq := hq.trans (ap1_eq e1)
    have hok := ok_ap1 e1 hok
    refine lv_iinc (k := 4) (v := (2 : Int32)) hx hb d_Mo_take_78 hl rfl (by first | rfl | decide) (by decide) rfl (fun ls hl => ?_)
    refine lv_goto (tgt := 55) hx hb d_Mo_take_81 rfl ?_
    exact B_Mo_take_55_2 _ _ _ _ _ _ _ qv1_16 hok (lv_sub hl [1, 2, 3, 4, 0] rfl) S hq
  have B_Mo_take_55_0 : ∀ (v1 : Int32) (v2 : Bool) (v3 : Int32) (σ : nS) (H : Heap) (locs : List Loc) (ls : Array Slot), (vp_in v1 16) → (o_Mo_take_55_0 v1 v2 v3 σ) → lv_has ls 5 [(0, .ref (a 0)), (1, .int v1), (2, .int (bI v2)), (3, .int v3), (4, .int (0 : Int32))] → St D (wM cI cZ a) A s σ H locs → F = s_Mo_take_55_0 v1 v2 v3 σ → W p l e ({ frames := 2, cells := 0, slots := 0, locals := 42 } : Room) s m args below meth c H locs 0 0 Q (F0 m 55 ls []) := by
    intro v1 v2 v3 σ H locs ls qv1_16 hok hl S hq
    refine lv_iload hx hb d_Mo_take_55 (lv_at hl 4 rfl) ?_
    refine lv_iconst (v := 4) hx hb d_Mo_take_57 (by decide) ?_
    refine lv_icmp_ge (tgt := 84) hx hb d_Mo_take_58 rfl (fun h9 => absurd h9 (by decide)) (fun _ => ?_)
    refine lv_aload_n hx hb d_Mo_take_61 rfl (lv_at hl 0 rfl) ?_
    refine lv_iload_n hx hb d_Mo_take_62 rfl (lv_at hl 3 rfl) ?_
    refine lv_iconst (v := 4) hx hb d_Mo_take_63 (by decide) ?_
    refine lv_iload hx hb d_Mo_take_64 (lv_at hl 4 rfl) ?_
    refine lv_imul hx hb d_Mo_take_66 ?_
    refine r_ci (v := 0) (by decide) ?_
    refine lv_iadd hx hb d_Mo_take_67 ?_
    refine lv_aload_n hx hb d_Mo_take_68 rfl (lv_at hl 0 rfl) ?_
    refine g_Mo_13 hx hb hts hown hK S.1 d_Mo_take_69 ?_
    refine lv_iload hx hb d_Mo_take_72 (lv_at hl 4 rfl) ?_
    refine ld_M_2 (k := 0) hx hb hK S.1 (vin_dec (by decide)) (by decide) d_Mo_take_74 ?_
    obtain ⟨g9, hok⟩ := hok
    refine callVV X S hl (c_Mo_store (v3 + (0 : Int32)) (σ 0 0) _ g9) v_Mo_102 0 6 ⟨rfl, rfl⟩ (rk_dec (by decide)) rfl rfl (Nat.le_of_ble_eq_true rfl) d_Mo_take_75 (fun σ1 H locs e1 S => ?_)
    have hq := hq.trans (ap1_eq e1)
    have hok := ok_ap1 e1 hok
    refine lv_iinc (k := 4) (v := (1 : Int32)) hx hb d_Mo_take_78 hl rfl (by first | rfl | decide) (by decide) rfl (fun ls hl => ?_)
    refine lv_goto (tgt := 55) hx hb d_Mo_take_81 rfl ?_
    exact B_Mo_take_55_1 _ _ _ _ _ _ _ qv1_16 hok (lv_sub hl [1, 2, 3, 4, 0] rfl) S hq
  have B_Mo_take_37 : ∀ (v1 : Int32) (v2 : Bool) (k0 : Int32) (k1 : Int32) (σ : nS) (H : Heap) (locs : List Loc) (ls : Array Slot), (vp_in v1 16) → (o_Mo_take_37 v1 v2 k0 k1 σ) → lv_has ls 5 [(0, .ref (a 0)), (1, .int v1), (2, .int (bI v2))] → St D (wM cI cZ a) A s σ H locs → F = s_Mo_take_37 v1 v2 k0 k1 σ → W p l e ({ frames := 2, cells := 0, slots := 0, locals := 42 } : Room) s m args below meth c H locs 0 0 Q (F0 m 37 ls [.int k1, .int k0]) := by
    intro v1 v2 k0 k1 σ H locs ls qv1_16 hok hl S hq
    refine lv_isub hx hb d_Mo_take_37 ?_
    refine lv_istore_n hx hb d_Mo_take_38 rfl hl (by decide) rfl (fun ls hl => ?_)
    refine lv_iload_n hx hb d_Mo_take_39 rfl (lv_at hl 0 rfl) ?_
    refine callSZp X S hl (c_Mo_isFrame (k0 - k1) _) v_Mo_96 (rk_dec (by decide)) rfl rfl (Nat.le_of_ble_eq_true rfl) d_Mo_take_40 (fun H locs S => ?_)
    refine r_ifneZ (tgt := 52) hx hb d_Mo_take_43 rfl (fun h43 => ?_) (fun h43 => ?_)
    · have hq := hq.trans (if_pos h43)
      have hok := ok_pos h43 hok
      refine lv_iconst (v := 0) hx hb d_Mo_take_52 (by decide) ?_
      refine lv_istore hx hb d_Mo_take_53 hl (by decide) rfl (fun ls hl => ?_)
      exact B_Mo_take_55_0 _ _ _ _ _ _ _ qv1_16 hok (lv_sub hl [2, 3, 4, 1, 0] rfl) S hq
    · have hq := hq.trans (if_neg h43)
      have hok := ok_neg h43 hok
      refine lv_aload_n hx hb d_Mo_take_46 rfl (lv_at hl 1 rfl) ?_
      refine lv_iconst (v := 2) hx hb d_Mo_take_47 (by decide) ?_
      refine p_Mo_99 hx hb hts hown hK S d_Mo_take_48 (fun H locs S => ?_)
      exact ret _ _ _ _ _ S hq d_Mo_take_51
  have B_Mo_take_18 : ∀ (v1 : Int32) (k0 : Bool) (σ : nS) (H : Heap) (locs : List Loc) (ls : Array Slot), (vp_in v1 16) → (o_Mo_take_18 v1 k0 σ) → lv_has ls 5 [(0, .ref (a 0)), (1, .int v1)] → St D (wM cI cZ a) A s σ H locs → F = s_Mo_take_18 v1 k0 σ → W p l e ({ frames := 2, cells := 0, slots := 0, locals := 42 } : Room) s m args below meth c H locs 0 0 Q (F0 m 18 ls [.int (bI k0)]) := by
    intro v1 k0 σ H locs ls qv1_16 hok hl S hq
    refine lv_istore_n hx hb d_Mo_take_18 rfl hl (by decide) rfl (fun ls hl => ?_)
    refine lv_aload_n hx hb d_Mo_take_19 rfl (lv_at hl 1 rfl) ?_
    refine g_Mo_13 hx hb hts hown hK S.1 d_Mo_take_20 ?_
    refine lv_bipush (v := 13) hx hb d_Mo_take_23 (by decide) ?_
    refine ld_M_2 (k := 13) hx hb hK S.1 (vin_dec (by decide)) (by decide) d_Mo_take_25 ?_
    refine lv_iload_n hx hb d_Mo_take_26 rfl (lv_at hl 0 rfl) ?_
    refine r_ifeqZ (tgt := 35) hx hb d_Mo_take_27 rfl (fun h27 => ?_) (fun h27 => ?_)
    · have hq := hq.trans (if_neg h27)
      have hok := ok_neg h27 hok
      refine lv_bipush (v := 32) hx hb d_Mo_take_35 (by decide) ?_
      exact B_Mo_take_37 _ _ _ _ _ _ _ _ qv1_16 hok (lv_sub hl [1, 2, 0] rfl) S hq
    · have hq := hq.trans (if_pos h27)
      have hok := ok_pos h27 hok
      refine lv_bipush (v := 36) hx hb d_Mo_take_30 (by decide) ?_
      refine lv_goto (tgt := 37) hx hb d_Mo_take_32 rfl ?_
      exact B_Mo_take_37 _ _ _ _ _ _ _ _ qv1_16 hok (lv_sub hl [1, 2, 0] rfl) S hq
  refine lv_aload_n hx hb d_Mo_take_0 rfl (lv_at hl 0 rfl) ?_
  refine g_Mo_13 hx hb hts hown hK S.1 d_Mo_take_1 ?_
  refine lv_bipush (v := 13) hx hb d_Mo_take_4 (by decide) ?_
  refine ld_M_2 (k := 13) hx hb hK S.1 (vin_dec (by decide)) (by decide) d_Mo_take_6 ?_
  refine lv_bipush (v := 7) hx hb d_Mo_take_7 (by decide) ?_
  refine lv_iand hx hb d_Mo_take_9 ?_
  refine lv_if_eq (tgt := 17) hx hb d_Mo_take_10 rfl (fun h10 => ?_) (fun h10 => ?_)
  · have hq := hq.trans (if_pos h10)
    have hok := ok_pos h10 hok
    refine lv_iconst (v := 0) hx hb d_Mo_take_17 (by decide) ?_
    exact B_Mo_take_18 _ false _ _ _ _ qv1_16 hok (lv_sub hl [0, 1] rfl) S hq
  · have hq := hq.trans (if_neg h10)
    have hok := ok_neg h10 hok
    refine lv_iconst (v := 1) hx hb d_Mo_take_13 (by decide) ?_
    refine lv_goto (tgt := 18) hx hb d_Mo_take_14 rfl ?_
    exact B_Mo_take_18 _ true _ _ _ _ qv1_16 hok (lv_sub hl [0, 1] rfl) S hq
set_option maxHeartbeats 4000000 in
set_option maxRecDepth 100000 in
theorem c_Mo_isBack (v1 : Int32) (v2 : Int32) (σ : nS) (hok : o_Mo_isBack v1 v2 σ) : CtZ l D cI cZ (wM cI cZ a) exM y_Mo_isBack b_Mo_isBack 4 { frames := 1, cells := 0, slots := 0, locals := 21 } [.ref (a 0), .int v1, .int v2] σ (s_Mo_isBack v1 v2 σ, σ) := by
  generalize hF : s_Mo_isBack v1 v2 σ = F
  refine metZp exM_ok (by decide) (Nat.le_of_ble_eq_true rfl) (fun p e s m args below meth c A Q ls X S hl ret => ?_)
  have hq := hF.symm
  obtain ⟨hx, hb, hml, hown, hts, hK, hA, hE, hlk, hEo⟩ := id X
  have hl : lv_has ls 4 [(0, .ref (a 0)), (1, .int v1), (2, .int v2)] := hl
  have B_Mo_isBack_53 : ∀ (H : Heap) (locs : List Loc) (ls : Array Slot), (o_Mo_isBack_53 σ) → lv_has ls 4 [] → St D (wM cI cZ a) A s σ H locs → F = s_Mo_isBack_53 σ → W p l e ({ frames := 1, cells := 0, slots := 0, locals := 21 } : Room) s m args below meth c H locs 0 0 Q (F0 m 53 ls []) := by
    intro H locs ls hok hl S hq
    refine lv_iconst (v := 0) hx hb d_Mo_isBack_53 (by decide) ?_
    exact ret _ _ _ _ false S hq d_Mo_isBack_54
  have B_Mo_isBack_46 : ∀ (k0 : Bool) (k1 : Bool) (H : Heap) (locs : List Loc) (ls : Array Slot), (o_Mo_isBack_46 k0 k1 σ) → lv_has ls 4 [] → St D (wM cI cZ a) A s σ H locs → F = s_Mo_isBack_46 k0 k1 σ → W p l e ({ frames := 1, cells := 0, slots := 0, locals := 21 } : Room) s m args below meth c H locs 0 0 Q (F0 m 46 ls [.int (bI k1), .int (bI k0)]) := by
    intro k0 k1 H locs ls hok hl S hq
    refine lv_icmp_ne (tgt := 53) hx hb d_Mo_isBack_46 rfl (fun h46 => ?_) (fun h46 => ?_)
    · have hq := hq.trans (if_neg h46)
      have hok := ok_neg h46 hok
      exact B_Mo_isBack_53 _ _ _ hok (lv_sub hl [] rfl) S hq
    · have hq := hq.trans (if_pos h46)
      have hok := ok_pos h46 hok
      refine lv_iconst (v := 1) hx hb d_Mo_isBack_49 (by decide) ?_
      refine lv_goto (tgt := 54) hx hb d_Mo_isBack_50 rfl ?_
      exact ret _ _ _ _ true S hq d_Mo_isBack_54
  have B_Mo_isBack_35 : ∀ (v2 : Int32) (k0 : Bool) (H : Heap) (locs : List Loc) (ls : Array Slot), (o_Mo_isBack_35 v2 k0 σ) → lv_has ls 4 [(2, .int v2)] → St D (wM cI cZ a) A s σ H locs → F = s_Mo_isBack_35 v2 k0 σ → W p l e ({ frames := 1, cells := 0, slots := 0, locals := 21 } : Room) s m args below meth c H locs 0 0 Q (F0 m 35 ls [.int (bI k0)]) := by
    intro v2 k0 H locs ls hok hl S hq
    refine lv_iload_n hx hb d_Mo_isBack_35 rfl (lv_at hl 0 rfl) ?_
    refine lv_bipush (v := -7) hx hb d_Mo_isBack_36 (by decide) ?_
    refine lv_icmp_ne (tgt := 45) hx hb d_Mo_isBack_38 rfl (fun h38 => ?_) (fun h38 => ?_)
    · have hq := hq.trans (if_neg h38)
      have hok := ok_neg h38 hok
      refine lv_iconst (v := 0) hx hb d_Mo_isBack_45 (by decide) ?_
      exact B_Mo_isBack_46 _ false _ _ _ hok (lv_sub hl [] rfl) S hq
    · have hq := hq.trans (if_pos h38)
      have hok := ok_pos h38 hok
      refine lv_iconst (v := 1) hx hb d_Mo_isBack_41 (by decide) ?_
      refine lv_goto (tgt := 46) hx hb d_Mo_isBack_42 rfl ?_
      exact B_Mo_isBack_46 _ true _ _ _ hok (lv_sub hl [] rfl) S hq
  refine lv_iload_n hx hb d_Mo_isBack_0 rfl (lv_at hl 1 rfl) ?_
  refine callSZp X S hl (c_Mo_isFrame v1 _) v_Mo_96 (rk_dec (by decide)) rfl rfl (Nat.le_of_ble_eq_true rfl) d_Mo_isBack_1 (fun H locs S => ?_)
  refine r_ifneZ (tgt := 9) hx hb d_Mo_isBack_4 rfl (fun h4 => ?_) (fun h4 => ?_)
  · have hq := hq.trans (if_pos h4)
    have hok := ok_pos h4 hok
    refine lv_aload_n hx hb d_Mo_isBack_9 rfl (lv_at hl 0 rfl) ?_
    refine lv_iload_n hx hb d_Mo_isBack_10 rfl (lv_at hl 1 rfl) ?_
    refine lv_bipush (v := 28) hx hb d_Mo_isBack_11 (by decide) ?_
    refine lv_iadd hx hb d_Mo_isBack_13 ?_
    obtain ⟨g1, hok⟩ := hok
    refine callVIp X S hl (c_Mo_load (v1 + (28 : Int32)) _ g1) v_Mo_77 0 6 ⟨rfl, rfl⟩ (rk_dec (by decide)) rfl rfl (Nat.le_of_ble_eq_true rfl) d_Mo_isBack_14 (fun H locs S => ?_)
    refine lv_bipush (v := 15) hx hb d_Mo_isBack_17 (by decide) ?_
    refine lv_iand hx hb d_Mo_isBack_19 ?_
    refine lv_istore_n hx hb d_Mo_isBack_20 rfl hl (by decide) rfl (fun ls hl => ?_)
    refine lv_iload_n hx hb d_Mo_isBack_21 rfl (lv_at hl 0 rfl) ?_
    refine lv_iconst (v := 1) hx hb d_Mo_isBack_22 (by decide) ?_
    refine lv_icmp_eq (tgt := 53) hx hb d_Mo_isBack_23 rfl (fun h23 => ?_) (fun h23 => ?_)
    · have hq := hq.trans (if_pos h23)
      have hok := ok_pos h23 hok
      exact B_Mo_isBack_53 _ _ _ hok (lv_sub hl [] rfl) S hq
    · have hq := hq.trans (if_neg h23)
      have hok := ok_neg h23 hok
      refine lv_iload_n hx hb d_Mo_isBack_26 rfl (lv_at hl 0 rfl) ?_
      refine lv_if_ne (tgt := 34) hx hb d_Mo_isBack_27 rfl (fun h27 => ?_) (fun h27 => ?_)
      · have hq := hq.trans (if_neg h27)
        have hok := ok_neg h27 hok
        refine lv_iconst (v := 0) hx hb d_Mo_isBack_34 (by decide) ?_
        exact B_Mo_isBack_35 _ false _ _ _ hok (lv_sub hl [3] rfl) S hq
      · have hq := hq.trans (if_pos h27)
        have hok := ok_pos h27 hok
        refine lv_iconst (v := 1) hx hb d_Mo_isBack_30 (by decide) ?_
        refine lv_goto (tgt := 35) hx hb d_Mo_isBack_31 rfl ?_
        exact B_Mo_isBack_35 _ true _ _ _ hok (lv_sub hl [3] rfl) S hq
  · have hq := hq.trans (if_neg h4)
    have hok := ok_neg h4 hok
    refine lv_iconst (v := 0) hx hb d_Mo_isBack_7 (by decide) ?_
    exact ret _ _ _ _ false S hq d_Mo_isBack_8
set_option maxHeartbeats 4000000 in
set_option maxRecDepth 100000 in
theorem c_Mo_flags (v1 : Int32) (σ : nS) : CtV l D cI cZ (wM cI cZ a) exM y_Mo_flags b_Mo_flags 2 { frames := 0, cells := 0, slots := 0, locals := 0 } [.ref (a 0), .int v1] σ (s_Mo_flags v1 σ) := by
  generalize hF : s_Mo_flags v1 σ = F
  refine metV exM_ok (by decide) (Nat.le_of_ble_eq_true rfl) (fun p e s m args below meth c A Q ls X S hl ret => ?_)
  have hq := hF.symm
  obtain ⟨hx, hb, hml, hown, hts, hK, hA, hE, hlk, hEo⟩ := id X
  have hl : lv_has ls 2 [(0, .ref (a 0)), (1, .int v1)] := hl
  have B_Mo_flags_58 : ∀ (k1 : Bool) (σ : nS) (H : Heap) (locs : List Loc) (ls : Array Slot), lv_has ls 2 [] → St D (wM cI cZ a) A s σ H locs → F = s_Mo_flags_58 k1 σ → W p l e ({ frames := 0, cells := 0, slots := 0, locals := 0 } : Room) s m args below meth c H locs 0 0 Q (F0 m 58 ls [.int (bI k1), .ref (a 0)]) := by
    intro k1 σ H locs ls hl S hq
    refine p_Mo_92 (b := k1) hx hb hts hown hK S d_Mo_flags_58 (fun H locs S => ?_)
    exact ret _ _ _ _ _ S hq d_Mo_flags_61
  have B_Mo_flags_43 : ∀ (v1 : Int32) (k1 : Bool) (σ : nS) (H : Heap) (locs : List Loc) (ls : Array Slot), lv_has ls 2 [(0, .ref (a 0)), (1, .int v1)] → St D (wM cI cZ a) A s σ H locs → F = s_Mo_flags_43 v1 k1 σ → W p l e ({ frames := 0, cells := 0, slots := 0, locals := 0 } : Room) s m args below meth c H locs 0 0 Q (F0 m 43 ls [.int (bI k1), .ref (a 0)]) := by
    intro v1 k1 σ H locs ls hl S hq
    refine p_Mo_88 (b := k1) hx hb hts hown hK S d_Mo_flags_43 (fun H locs S => ?_)
    refine lv_aload_n hx hb d_Mo_flags_46 rfl (lv_at hl 0 rfl) ?_
    refine lv_iload_n hx hb d_Mo_flags_47 rfl (lv_at hl 1 rfl) ?_
    refine lv_iconst (v := 1) hx hb d_Mo_flags_48 (by decide) ?_
    refine lv_iand hx hb d_Mo_flags_49 ?_
    refine lv_if_eq (tgt := 57) hx hb d_Mo_flags_50 rfl (fun h50 => ?_) (fun h50 => ?_)
    · have hq := hq.trans (if_pos h50)
      refine lv_iconst (v := 0) hx hb d_Mo_flags_57 (by decide) ?_
      exact B_Mo_flags_58 false _ _ _ _ (lv_sub hl [] rfl) S hq
    · have hq := hq.trans (if_neg h50)
      refine lv_iconst (v := 1) hx hb d_Mo_flags_53 (by decide) ?_
      refine lv_goto (tgt := 58) hx hb d_Mo_flags_54 rfl ?_
      exact B_Mo_flags_58 true _ _ _ _ (lv_sub hl [] rfl) S hq
  have B_Mo_flags_28 : ∀ (v1 : Int32) (k1 : Bool) (σ : nS) (H : Heap) (locs : List Loc) (ls : Array Slot), lv_has ls 2 [(0, .ref (a 0)), (1, .int v1)] → St D (wM cI cZ a) A s σ H locs → F = s_Mo_flags_28 v1 k1 σ → W p l e ({ frames := 0, cells := 0, slots := 0, locals := 0 } : Room) s m args below meth c H locs 0 0 Q (F0 m 28 ls [.int (bI k1), .ref (a 0)]) := by
    intro v1 k1 σ H locs ls hl S hq
    refine p_Mo_84 (b := k1) hx hb hts hown hK S d_Mo_flags_28 (fun H locs S => ?_)
    refine lv_aload_n hx hb d_Mo_flags_31 rfl (lv_at hl 0 rfl) ?_
    refine lv_iload_n hx hb d_Mo_flags_32 rfl (lv_at hl 1 rfl) ?_
    refine lv_iconst (v := 2) hx hb d_Mo_flags_33 (by decide) ?_
    refine lv_iand hx hb d_Mo_flags_34 ?_
    refine lv_if_eq (tgt := 42) hx hb d_Mo_flags_35 rfl (fun h35 => ?_) (fun h35 => ?_)
    · have hq := hq.trans (if_pos h35)
      refine lv_iconst (v := 0) hx hb d_Mo_flags_42 (by decide) ?_
      exact B_Mo_flags_43 _ false _ _ _ _ (lv_sub hl [0, 1] rfl) S hq
    · have hq := hq.trans (if_neg h35)
      refine lv_iconst (v := 1) hx hb d_Mo_flags_38 (by decide) ?_
      refine lv_goto (tgt := 43) hx hb d_Mo_flags_39 rfl ?_
      exact B_Mo_flags_43 _ true _ _ _ _ (lv_sub hl [0, 1] rfl) S hq
  have B_Mo_flags_13 : ∀ (v1 : Int32) (k1 : Bool) (σ : nS) (H : Heap) (locs : List Loc) (ls : Array Slot), lv_has ls 2 [(0, .ref (a 0)), (1, .int v1)] → St D (wM cI cZ a) A s σ H locs → F = s_Mo_flags_13 v1 k1 σ → W p l e ({ frames := 0, cells := 0, slots := 0, locals := 0 } : Room) s m args below meth c H locs 0 0 Q (F0 m 13 ls [.int (bI k1), .ref (a 0)]) := by
    intro v1 k1 σ H locs ls hl S hq
    refine p_Mo_80 (b := k1) hx hb hts hown hK S d_Mo_flags_13 (fun H locs S => ?_)
    refine lv_aload_n hx hb d_Mo_flags_16 rfl (lv_at hl 0 rfl) ?_
    refine lv_iload_n hx hb d_Mo_flags_17 rfl (lv_at hl 1 rfl) ?_
    refine lv_iconst (v := 4) hx hb d_Mo_flags_18 (by decide) ?_
    refine lv_iand hx hb d_Mo_flags_19 ?_
    refine lv_if_eq (tgt := 27) hx hb d_Mo_flags_20 rfl (fun h20 => ?_) (fun h20 => ?_)
    · have hq := hq.trans (if_pos h20)
      refine lv_iconst (v := 0) hx hb d_Mo_flags_27 (by decide) ?_
      exact B_Mo_flags_28 _ false _ _ _ _ (lv_sub hl [0, 1] rfl) S hq
    · have hq := hq.trans (if_neg h20)
      refine lv_iconst (v := 1) hx hb d_Mo_flags_23 (by decide) ?_
      refine lv_goto (tgt := 28) hx hb d_Mo_flags_24 rfl ?_
      exact B_Mo_flags_28 _ true _ _ _ _ (lv_sub hl [0, 1] rfl) S hq
  refine lv_aload_n hx hb d_Mo_flags_0 rfl (lv_at hl 0 rfl) ?_
  refine lv_iload_n hx hb d_Mo_flags_1 rfl (lv_at hl 1 rfl) ?_
  refine lv_bipush (v := 8) hx hb d_Mo_flags_2 (by decide) ?_
  refine lv_iand hx hb d_Mo_flags_4 ?_
  refine lv_if_eq (tgt := 12) hx hb d_Mo_flags_5 rfl (fun h5 => ?_) (fun h5 => ?_)
  · have hq := hq.trans (if_pos h5)
    refine lv_iconst (v := 0) hx hb d_Mo_flags_12 (by decide) ?_
    exact B_Mo_flags_13 _ false _ _ _ _ (lv_sub hl [0, 1] rfl) S hq
  · have hq := hq.trans (if_neg h5)
    refine lv_iconst (v := 1) hx hb d_Mo_flags_8 (by decide) ?_
    refine lv_goto (tgt := 13) hx hb d_Mo_flags_9 rfl ?_
    exact B_Mo_flags_13 _ true _ _ _ _ (lv_sub hl [0, 1] rfl) S hq
end CT
