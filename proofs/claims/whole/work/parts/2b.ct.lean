section CT
variable {l : Launch} {D : va_G} {cI cZ : ClassId} {a : Nat → Nat} {t : Nat}
set_option maxHeartbeats 4000000 in
set_option maxRecDepth 100000 in
theorem c_Ex_due (σ : nS) : CtI l D cI cZ (wC cI cZ a) (exC t) y_Ex_due b_Ex_due 3 { frames := 2, cells := 0, slots := 0, locals := 86 } [.ref (a 10)] σ (s_Ex_due σ, σ) := by
  generalize hF : s_Ex_due σ = F
  refine metIp (exC_ok t) (by decide) (Nat.le_of_ble_eq_true rfl) (fun p e s m args below meth c A Q ls X S hl ret => ?_)
  have hq := hF.symm
  obtain ⟨hx, hb, hml, hown, hts, hK, hA, hE, hlk, hEo⟩ := id X
  have hl : lv_has ls 3 [(0, .ref (a 10))] := hl
  have B_Ex_due_75 : ∀ (H : Heap) (locs : List Loc) (ls : Array Slot), lv_has ls 3 [] → St D (wC cI cZ a) A s σ H locs → F = s_Ex_due_75 σ → W p l e ({ frames := 2, cells := 0, slots := 0, locals := 86 } : Room) s m args below meth c H locs 0 0 Q (F0 m 75 ls []) := by
    intro H locs ls hl S hq
    refine lv_iconst (v := 0) hx hb d_Ex_due_75 (by decide) ?_
    exact ret _ _ _ _ _ S hq d_Ex_due_76
  have B_Ex_due_4_16 : ∀ (v1 : Int32) (H : Heap) (locs : List Loc) (ls : Array Slot), (vp_in v1 16) → lv_has ls 3 [(0, .ref (a 10)), (1, .int v1), (2, .int (16 : Int32))] → St D (wC cI cZ a) A s σ H locs → F = s_Ex_due_4_16 v1 σ → W p l e ({ frames := 2, cells := 0, slots := 0, locals := 86 } : Room) s m args below meth c H locs 0 0 Q (F0 m 4 ls []) := by
    intro v1 H locs ls qv1_16 hl S hq
    refine lv_iload_n hx hb d_Ex_due_4 rfl (lv_at hl 2 rfl) ?_
    refine lv_bipush (v := 15) hx hb d_Ex_due_5 (by decide) ?_
    refine lv_icmp_gt (tgt := 55) hx hb d_Ex_due_7 rfl (fun _ => ?_) (fun h9 => absurd (by decide) h9)
    refine lv_iload_n hx hb d_Ex_due_55 rfl (lv_at hl 1 rfl) ?_
    refine lv_if_eq (tgt := 75) hx hb d_Ex_due_56 rfl (fun h56 => ?_) (fun h56 => ?_)
    · have hq := hq.trans (if_pos h56)
      exact B_Ex_due_75 _ _ _ (lv_sub hl [] rfl) S hq
    · have hq := hq.trans (if_neg h56)
      refine lv_aload_n hx hb d_Ex_due_59 rfl (lv_at hl 0 rfl) ?_
      refine lv_iload_n hx hb d_Ex_due_60 rfl (lv_at hl 1 rfl) ?_
      refine callVIp X S hl (c_Ex_group v1 _ qv1_16) v_Ex_29 10 3 ⟨rfl, rfl⟩ (rk_dec (by decide)) rfl rfl (Nat.le_of_ble_eq_true rfl) d_Ex_due_61 (fun H locs S => ?_)
      refine lv_aload_n hx hb d_Ex_due_64 rfl (lv_at hl 0 rfl) ?_
      refine callVIp X S hl (c_Ex_level _) v_Ex_49 10 3 ⟨rfl, rfl⟩ (rk_dec (by decide)) rfl rfl (Nat.le_of_ble_eq_true rfl) d_Ex_due_65 (fun H locs S => ?_)
      refine lv_icmp_ge (tgt := 75) hx hb d_Ex_due_68 rfl (fun h68 => ?_) (fun h68 => ?_)
      · have hq := hq.trans (if_pos h68)
        exact B_Ex_due_75 _ _ _ (lv_sub hl [] rfl) S hq
      · have hq := hq.trans (if_neg h68)
        refine lv_iload_n hx hb d_Ex_due_71 rfl (lv_at hl 1 rfl) ?_
        refine lv_goto (tgt := 76) hx hb d_Ex_due_72 rfl ?_
        exact ret _ _ _ _ _ S hq d_Ex_due_76
  have B_Ex_due_49_15 : ∀ (v1 : Int32) (H : Heap) (locs : List Loc) (ls : Array Slot), (vp_in v1 16) → lv_has ls 3 [(0, .ref (a 10)), (1, .int v1), (2, .int (15 : Int32))] → St D (wC cI cZ a) A s σ H locs → F = s_Ex_due_49_15 v1 σ → W p l e ({ frames := 2, cells := 0, slots := 0, locals := 86 } : Room) s m args below meth c H locs 0 0 Q (F0 m 49 ls []) := by
    intro v1 H locs ls qv1_16 hl S hq
    refine lv_iinc (k := 2) (v := (16 : Int32)) hx hb d_Ex_due_49 hl rfl (by first | rfl | decide) (by decide) rfl (fun ls hl => ?_)
    refine lv_goto (tgt := 4) hx hb d_Ex_due_52 rfl ?_
    exact B_Ex_due_4_16 _ _ _ _ qv1_16 (lv_sub hl [1, 2, 0] rfl) S hq
  have B_Ex_due_47_15 : ∀ (H : Heap) (locs : List Loc) (ls : Array Slot), lv_has ls 3 [(0, .ref (a 10)), (2, .int (15 : Int32))] → St D (wC cI cZ a) A s σ H locs → F = s_Ex_due_47_15 σ → W p l e ({ frames := 2, cells := 0, slots := 0, locals := 86 } : Room) s m args below meth c H locs 0 0 Q (F0 m 47 ls []) := by
    intro H locs ls hl S hq
    refine lv_iload_n hx hb d_Ex_due_47 rfl (lv_at hl 1 rfl) ?_
    refine lv_istore_n hx hb d_Ex_due_48 rfl hl (by decide) rfl (fun ls hl => ?_)
    exact B_Ex_due_49_15 _ _ _ _ (vin_dec (by decide)) (lv_sub hl [1, 0, 2] rfl) S hq
  have B_Ex_due_4_15 : ∀ (v1 : Int32) (H : Heap) (locs : List Loc) (ls : Array Slot), (vp_in v1 16) → lv_has ls 3 [(0, .ref (a 10)), (1, .int v1), (2, .int (15 : Int32))] → St D (wC cI cZ a) A s σ H locs → F = s_Ex_due_4_15 v1 σ → W p l e ({ frames := 2, cells := 0, slots := 0, locals := 86 } : Room) s m args below meth c H locs 0 0 Q (F0 m 4 ls []) := by
    intro v1 H locs ls qv1_16 hl S hq
    refine lv_iload_n hx hb d_Ex_due_4 rfl (lv_at hl 2 rfl) ?_
    refine lv_bipush (v := 15) hx hb d_Ex_due_5 (by decide) ?_
    refine lv_icmp_gt (tgt := 55) hx hb d_Ex_due_7 rfl (fun h9 => absurd h9 (by decide)) (fun _ => ?_)
    refine lv_aload_n hx hb d_Ex_due_10 rfl (lv_at hl 0 rfl) ?_
    refine g_Ex_15 hx hb hts hown hK S.1 d_Ex_due_11 ?_
    refine lv_iload_n hx hb d_Ex_due_14 rfl (lv_at hl 2 rfl) ?_
    refine ld_C_12 (k := 15) hx hb hK S.1 (vin_dec (by decide)) (by decide) d_Ex_due_15 ?_
    refine lv_if_eq (tgt := 49) hx hb d_Ex_due_16 rfl (fun h16 => ?_) (fun h16 => ?_)
    · have hq := hq.trans (if_pos h16)
      exact B_Ex_due_49_15 _ _ _ _ qv1_16 (lv_sub hl [0, 1, 2] rfl) S hq
    · have hq := hq.trans (if_neg h16)
      refine lv_aload_n hx hb d_Ex_due_19 rfl (lv_at hl 0 rfl) ?_
      refine g_Ex_9 hx hb hts hown hK S.1 d_Ex_due_20 ?_
      refine lv_iload_n hx hb d_Ex_due_23 rfl (lv_at hl 2 rfl) ?_
      refine ld_C_11 (k := 15) hx hb hK S.1 (vin_dec (by decide)) (by decide) d_Ex_due_24 ?_
      refine lv_if_eq (tgt := 49) hx hb d_Ex_due_25 rfl (fun h25 => ?_) (fun h25 => ?_)
      · have hq := hq.trans (if_pos h25)
        exact B_Ex_due_49_15 _ _ _ _ qv1_16 (lv_sub hl [0, 1, 2] rfl) S hq
      · have hq := hq.trans (if_neg h25)
        refine lv_iload_n hx hb d_Ex_due_28 rfl (lv_at hl 1 rfl) ?_
        refine lv_if_eq (tgt := 47) hx hb d_Ex_due_29 rfl (fun h29 => ?_) (fun h29 => ?_)
        · have hq := hq.trans (if_pos h29)
          exact B_Ex_due_47_15 _ _ _ (lv_sub hl [0, 2] rfl) S hq
        · have hq := hq.trans (if_neg h29)
          refine lv_aload_n hx hb d_Ex_due_32 rfl (lv_at hl 0 rfl) ?_
          refine g_Ex_21 hx hb hts hown hK S.1 d_Ex_due_33 ?_
          refine lv_iload_n hx hb d_Ex_due_36 rfl (lv_at hl 2 rfl) ?_
          refine ld_C_14 (k := 15) hx hb hK S.1 (vin_dec (by decide)) (by decide) d_Ex_due_37 ?_
          refine lv_aload_n hx hb d_Ex_due_38 rfl (lv_at hl 0 rfl) ?_
          refine g_Ex_21 hx hb hts hown hK S.1 d_Ex_due_39 ?_
          refine lv_iload_n hx hb d_Ex_due_42 rfl (lv_at hl 1 rfl) ?_
          refine ld_C_14 (k := (v1).toNatClampNeg) hx hb hK S.1 qv1_16 rfl d_Ex_due_43 ?_
          refine lv_icmp_ge (tgt := 49) hx hb d_Ex_due_44 rfl (fun h44 => ?_) (fun h44 => ?_)
          · have hq := hq.trans (if_pos h44)
            exact B_Ex_due_49_15 _ _ _ _ qv1_16 (lv_sub hl [0, 1, 2] rfl) S hq
          · have hq := hq.trans (if_neg h44)
            exact B_Ex_due_47_15 _ _ _ (lv_sub hl [0, 2] rfl) S hq
  have B_Ex_due_49_14 : ∀ (v1 : Int32) (H : Heap) (locs : List Loc) (ls : Array Slot), (vp_in v1 16) → lv_has ls 3 [(0, .ref (a 10)), (1, .int v1), (2, .int (14 : Int32))] → St D (wC cI cZ a) A s σ H locs → F = s_Ex_due_49_14 v1 σ → W p l e ({ frames := 2, cells := 0, slots := 0, locals := 86 } : Room) s m args below meth c H locs 0 0 Q (F0 m 49 ls []) := by
    intro v1 H locs ls qv1_16 hl S hq
    refine lv_iinc (k := 2) (v := (15 : Int32)) hx hb d_Ex_due_49 hl rfl (by first | rfl | decide) (by decide) rfl (fun ls hl => ?_)
    refine lv_goto (tgt := 4) hx hb d_Ex_due_52 rfl ?_
    exact B_Ex_due_4_15 _ _ _ _ qv1_16 (lv_sub hl [1, 2, 0] rfl) S hq
  have B_Ex_due_47_14 : ∀ (H : Heap) (locs : List Loc) (ls : Array Slot), lv_has ls 3 [(0, .ref (a 10)), (2, .int (14 : Int32))] → St D (wC cI cZ a) A s σ H locs → F = s_Ex_due_47_14 σ → W p l e ({ frames := 2, cells := 0, slots := 0, locals := 86 } : Room) s m args below meth c H locs 0 0 Q (F0 m 47 ls []) := by
    intro H locs ls hl S hq
    refine lv_iload_n hx hb d_Ex_due_47 rfl (lv_at hl 1 rfl) ?_
    refine lv_istore_n hx hb d_Ex_due_48 rfl hl (by decide) rfl (fun ls hl => ?_)
    exact B_Ex_due_49_14 _ _ _ _ (vin_dec (by decide)) (lv_sub hl [1, 0, 2] rfl) S hq
  have B_Ex_due_4_14 : ∀ (v1 : Int32) (H : Heap) (locs : List Loc) (ls : Array Slot), (vp_in v1 16) → lv_has ls 3 [(0, .ref (a 10)), (1, .int v1), (2, .int (14 : Int32))] → St D (wC cI cZ a) A s σ H locs → F = s_Ex_due_4_14 v1 σ → W p l e ({ frames := 2, cells := 0, slots := 0, locals := 86 } : Room) s m args below meth c H locs 0 0 Q (F0 m 4 ls []) := by
    intro v1 H locs ls qv1_16 hl S hq
    refine lv_iload_n hx hb d_Ex_due_4 rfl (lv_at hl 2 rfl) ?_
    refine lv_bipush (v := 15) hx hb d_Ex_due_5 (by decide) ?_
    refine lv_icmp_gt (tgt := 55) hx hb d_Ex_due_7 rfl (fun h9 => absurd h9 (by decide)) (fun _ => ?_)
    refine lv_aload_n hx hb d_Ex_due_10 rfl (lv_at hl 0 rfl) ?_
    refine g_Ex_15 hx hb hts hown hK S.1 d_Ex_due_11 ?_
    refine lv_iload_n hx hb d_Ex_due_14 rfl (lv_at hl 2 rfl) ?_
    refine ld_C_12 (k := 14) hx hb hK S.1 (vin_dec (by decide)) (by decide) d_Ex_due_15 ?_
    refine lv_if_eq (tgt := 49) hx hb d_Ex_due_16 rfl (fun h16 => ?_) (fun h16 => ?_)
    · have hq := hq.trans (if_pos h16)
      exact B_Ex_due_49_14 _ _ _ _ qv1_16 (lv_sub hl [0, 1, 2] rfl) S hq
    · have hq := hq.trans (if_neg h16)
      refine lv_aload_n hx hb d_Ex_due_19 rfl (lv_at hl 0 rfl) ?_
      refine g_Ex_9 hx hb hts hown hK S.1 d_Ex_due_20 ?_
      refine lv_iload_n hx hb d_Ex_due_23 rfl (lv_at hl 2 rfl) ?_
      refine ld_C_11 (k := 14) hx hb hK S.1 (vin_dec (by decide)) (by decide) d_Ex_due_24 ?_
      refine lv_if_eq (tgt := 49) hx hb d_Ex_due_25 rfl (fun h25 => ?_) (fun h25 => ?_)
      · have hq := hq.trans (if_pos h25)
        exact B_Ex_due_49_14 _ _ _ _ qv1_16 (lv_sub hl [0, 1, 2] rfl) S hq
      · have hq := hq.trans (if_neg h25)
        refine lv_iload_n hx hb d_Ex_due_28 rfl (lv_at hl 1 rfl) ?_
        refine lv_if_eq (tgt := 47) hx hb d_Ex_due_29 rfl (fun h29 => ?_) (fun h29 => ?_)
        · have hq := hq.trans (if_pos h29)
          exact B_Ex_due_47_14 _ _ _ (lv_sub hl [0, 2] rfl) S hq
        · have hq := hq.trans (if_neg h29)
          refine lv_aload_n hx hb d_Ex_due_32 rfl (lv_at hl 0 rfl) ?_
          refine g_Ex_21 hx hb hts hown hK S.1 d_Ex_due_33 ?_
          refine lv_iload_n hx hb d_Ex_due_36 rfl (lv_at hl 2 rfl) ?_
          refine ld_C_14 (k := 14) hx hb hK S.1 (vin_dec (by decide)) (by decide) d_Ex_due_37 ?_
          refine lv_aload_n hx hb d_Ex_due_38 rfl (lv_at hl 0 rfl) ?_
          refine g_Ex_21 hx hb hts hown hK S.1 d_Ex_due_39 ?_
          refine lv_iload_n hx hb d_Ex_due_42 rfl (lv_at hl 1 rfl) ?_
          refine ld_C_14 (k := (v1).toNatClampNeg) hx hb hK S.1 qv1_16 rfl d_Ex_due_43 ?_
          refine lv_icmp_ge (tgt := 49) hx hb d_Ex_due_44 rfl (fun h44 => ?_) (fun h44 => ?_)
          · have hq := hq.trans (if_pos h44)
            exact B_Ex_due_49_14 _ _ _ _ qv1_16 (lv_sub hl [0, 1, 2] rfl) S hq
          · have hq := hq.trans (if_neg h44)
            exact B_Ex_due_47_14 _ _ _ (lv_sub hl [0, 2] rfl) S hq
  have B_Ex_due_49_13 : ∀ (v1 : Int32) (H : Heap) (locs : List Loc) (ls : Array Slot), (vp_in v1 16) → lv_has ls 3 [(0, .ref (a 10)), (1, .int v1), (2, .int (13 : Int32))] → St D (wC cI cZ a) A s σ H locs → F = s_Ex_due_49_13 v1 σ → W p l e ({ frames := 2, cells := 0, slots := 0, locals := 86 } : Room) s m args below meth c H locs 0 0 Q (F0 m 49 ls []) := by
    intro v1 H locs ls qv1_16 hl S hq
    refine lv_iinc (k := 2) (v := (14 : Int32)) hx hb d_Ex_due_49 hl rfl (by first | rfl | decide) (by decide) rfl (fun ls hl => ?_)
    refine lv_goto (tgt := 4) hx hb d_Ex_due_52 rfl ?_
    exact B_Ex_due_4_14 _ _ _ _ qv1_16 (lv_sub hl [1, 2, 0] rfl) S hq
  have B_Ex_due_47_13 : ∀ (H : Heap) (locs : List Loc) (ls : Array Slot), lv_has ls 3 [(0, .ref (a 10)), (2, .int (13 : Int32))] → St D (wC cI cZ a) A s σ H locs → F = s_Ex_due_47_13 σ → W p l e ({ frames := 2, cells := 0, slots := 0, locals := 86 } : Room) s m args below meth c H locs 0 0 Q (F0 m 47 ls []) := by
    intro H locs ls hl S hq
    refine lv_iload_n hx hb d_Ex_due_47 rfl (lv_at hl 1 rfl) ?_
    refine lv_istore_n hx hb d_Ex_due_48 rfl hl (by decide) rfl (fun ls hl => ?_)
    exact B_Ex_due_49_13 _ _ _ _ (vin_dec (by decide)) (lv_sub hl [1, 0, 2] rfl) S hq
  have B_Ex_due_4_13 : ∀ (v1 : Int32) (H : Heap) (locs : List Loc) (ls : Array Slot), (vp_in v1 16) → lv_has ls 3 [(0, .ref (a 10)), (1, .int v1), (2, .int (13 : Int32))] → St D (wC cI cZ a) A s σ H locs → F = s_Ex_due_4_13 v1 σ → W p l e ({ frames := 2, cells := 0, slots := 0, locals := 86 } : Room) s m args below meth c H locs 0 0 Q (F0 m 4 ls []) := by
    intro v1 H locs ls qv1_16 hl S hq
    refine lv_iload_n hx hb d_Ex_due_4 rfl (lv_at hl 2 rfl) ?_
    refine lv_bipush (v := 15) hx hb d_Ex_due_5 (by decide) ?_
    refine lv_icmp_gt (tgt := 55) hx hb d_Ex_due_7 rfl (fun h9 => absurd h9 (by decide)) (fun _ => ?_)
    refine lv_aload_n hx hb d_Ex_due_10 rfl (lv_at hl 0 rfl) ?_
    refine g_Ex_15 hx hb hts hown hK S.1 d_Ex_due_11 ?_
    refine lv_iload_n hx hb d_Ex_due_14 rfl (lv_at hl 2 rfl) ?_
    refine ld_C_12 (k := 13) hx hb hK S.1 (vin_dec (by decide)) (by decide) d_Ex_due_15 ?_
    refine lv_if_eq (tgt := 49) hx hb d_Ex_due_16 rfl (fun h16 => ?_) (fun h16 => ?_)
    · have hq := hq.trans (if_pos h16)
      exact B_Ex_due_49_13 _ _ _ _ qv1_16 (lv_sub hl [0, 1, 2] rfl) S hq
    · have hq := hq.trans (if_neg h16)
      refine lv_aload_n hx hb d_Ex_due_19 rfl (lv_at hl 0 rfl) ?_
      refine g_Ex_9 hx hb hts hown hK S.1 d_Ex_due_20 ?_
      refine lv_iload_n hx hb d_Ex_due_23 rfl (lv_at hl 2 rfl) ?_
      refine ld_C_11 (k := 13) hx hb hK S.1 (vin_dec (by decide)) (by decide) d_Ex_due_24 ?_
      refine lv_if_eq (tgt := 49) hx hb d_Ex_due_25 rfl (fun h25 => ?_) (fun h25 => ?_)
      · have hq := hq.trans (if_pos h25)
        exact B_Ex_due_49_13 _ _ _ _ qv1_16 (lv_sub hl [0, 1, 2] rfl) S hq
      · have hq := hq.trans (if_neg h25)
        refine lv_iload_n hx hb d_Ex_due_28 rfl (lv_at hl 1 rfl) ?_
        refine lv_if_eq (tgt := 47) hx hb d_Ex_due_29 rfl (fun h29 => ?_) (fun h29 => ?_)
        · have hq := hq.trans (if_pos h29)
          exact B_Ex_due_47_13 _ _ _ (lv_sub hl [0, 2] rfl) S hq
        · have hq := hq.trans (if_neg h29)
          refine lv_aload_n hx hb d_Ex_due_32 rfl (lv_at hl 0 rfl) ?_
          refine g_Ex_21 hx hb hts hown hK S.1 d_Ex_due_33 ?_
          refine lv_iload_n hx hb d_Ex_due_36 rfl (lv_at hl 2 rfl) ?_
          refine ld_C_14 (k := 13) hx hb hK S.1 (vin_dec (by decide)) (by decide) d_Ex_due_37 ?_
          refine lv_aload_n hx hb d_Ex_due_38 rfl (lv_at hl 0 rfl) ?_
          refine g_Ex_21 hx hb hts hown hK S.1 d_Ex_due_39 ?_
          refine lv_iload_n hx hb d_Ex_due_42 rfl (lv_at hl 1 rfl) ?_
          refine ld_C_14 (k := (v1).toNatClampNeg) hx hb hK S.1 qv1_16 rfl d_Ex_due_43 ?_
          refine lv_icmp_ge (tgt := 49) hx hb d_Ex_due_44 rfl (fun h44 => ?_) (fun h44 => ?_)
          · have hq := hq.trans (if_pos h44)
            exact B_Ex_due_49_13 _ _ _ _ qv1_16 (lv_sub hl [0, 1, 2] rfl) S hq
          · have hq := hq.trans (if_neg h44)
            exact B_Ex_due_47_13 _ _ _ (lv_sub hl [0, 2] rfl) S hq
  have B_Ex_due_49_12 : ∀ (v1 : Int32) (H : Heap) (locs : List Loc) (ls : Array Slot), (vp_in v1 16) → lv_has ls 3 [(0, .ref (a 10)), (1, .int v1), (2, .int (12 : Int32))] → St D (wC cI cZ a) A s σ H locs → F = s_Ex_due_49_12 v1 σ → W p l e ({ frames := 2, cells := 0, slots := 0, locals := 86 } : Room) s m args below meth c H locs 0 0 Q (F0 m 49 ls []) := by
    intro v1 H locs ls qv1_16 hl S hq
    refine lv_iinc (k := 2) (v := (13 : Int32)) hx hb d_Ex_due_49 hl rfl (by first | rfl | decide) (by decide) rfl (fun ls hl => ?_)
    refine lv_goto (tgt := 4) hx hb d_Ex_due_52 rfl ?_
    exact B_Ex_due_4_13 _ _ _ _ qv1_16 (lv_sub hl [1, 2, 0] rfl) S hq
  have B_Ex_due_47_12 : ∀ (H : Heap) (locs : List Loc) (ls : Array Slot), lv_has ls 3 [(0, .ref (a 10)), (2, .int (12 : Int32))] → St D (wC cI cZ a) A s σ H locs → F = s_Ex_due_47_12 σ → W p l e ({ frames := 2, cells := 0, slots := 0, locals := 86 } : Room) s m args below meth c H locs 0 0 Q (F0 m 47 ls []) := by
    intro H locs ls hl S hq
    refine lv_iload_n hx hb d_Ex_due_47 rfl (lv_at hl 1 rfl) ?_
    refine lv_istore_n hx hb d_Ex_due_48 rfl hl (by decide) rfl (fun ls hl => ?_)
    exact B_Ex_due_49_12 _ _ _ _ (vin_dec (by decide)) (lv_sub hl [1, 0, 2] rfl) S hq
  have B_Ex_due_4_12 : ∀ (v1 : Int32) (H : Heap) (locs : List Loc) (ls : Array Slot), (vp_in v1 16) → lv_has ls 3 [(0, .ref (a 10)), (1, .int v1), (2, .int (12 : Int32))] → St D (wC cI cZ a) A s σ H locs → F = s_Ex_due_4_12 v1 σ → W p l e ({ frames := 2, cells := 0, slots := 0, locals := 86 } : Room) s m args below meth c H locs 0 0 Q (F0 m 4 ls []) := by
    intro v1 H locs ls qv1_16 hl S hq
    refine lv_iload_n hx hb d_Ex_due_4 rfl (lv_at hl 2 rfl) ?_
    refine lv_bipush (v := 15) hx hb d_Ex_due_5 (by decide) ?_
    refine lv_icmp_gt (tgt := 55) hx hb d_Ex_due_7 rfl (fun h9 => absurd h9 (by decide)) (fun _ => ?_)
    refine lv_aload_n hx hb d_Ex_due_10 rfl (lv_at hl 0 rfl) ?_
    refine g_Ex_15 hx hb hts hown hK S.1 d_Ex_due_11 ?_
    refine lv_iload_n hx hb d_Ex_due_14 rfl (lv_at hl 2 rfl) ?_
    refine ld_C_12 (k := 12) hx hb hK S.1 (vin_dec (by decide)) (by decide) d_Ex_due_15 ?_
    refine lv_if_eq (tgt := 49) hx hb d_Ex_due_16 rfl (fun h16 => ?_) (fun h16 => ?_)
    · have hq := hq.trans (if_pos h16)
      exact B_Ex_due_49_12 _ _ _ _ qv1_16 (lv_sub hl [0, 1, 2] rfl) S hq
    · have hq := hq.trans (if_neg h16)
      refine lv_aload_n hx hb d_Ex_due_19 rfl (lv_at hl 0 rfl) ?_
      refine g_Ex_9 hx hb hts hown hK S.1 d_Ex_due_20 ?_
      refine lv_iload_n hx hb d_Ex_due_23 rfl (lv_at hl 2 rfl) ?_
      refine ld_C_11 (k := 12) hx hb hK S.1 (vin_dec (by decide)) (by decide) d_Ex_due_24 ?_
      refine lv_if_eq (tgt := 49) hx hb d_Ex_due_25 rfl (fun h25 => ?_) (fun h25 => ?_)
      · have hq := hq.trans (if_pos h25)
        exact B_Ex_due_49_12 _ _ _ _ qv1_16 (lv_sub hl [0, 1, 2] rfl) S hq
      · have hq := hq.trans (if_neg h25)
        refine lv_iload_n hx hb d_Ex_due_28 rfl (lv_at hl 1 rfl) ?_
        refine lv_if_eq (tgt := 47) hx hb d_Ex_due_29 rfl (fun h29 => ?_) (fun h29 => ?_)
        · have hq := hq.trans (if_pos h29)
          exact B_Ex_due_47_12 _ _ _ (lv_sub hl [0, 2] rfl) S hq
        · have hq := hq.trans (if_neg h29)
          refine lv_aload_n hx hb d_Ex_due_32 rfl (lv_at hl 0 rfl) ?_
          refine g_Ex_21 hx hb hts hown hK S.1 d_Ex_due_33 ?_
          refine lv_iload_n hx hb d_Ex_due_36 rfl (lv_at hl 2 rfl) ?_
          refine ld_C_14 (k := 12) hx hb hK S.1 (vin_dec (by decide)) (by decide) d_Ex_due_37 ?_
          refine lv_aload_n hx hb d_Ex_due_38 rfl (lv_at hl 0 rfl) ?_
          refine g_Ex_21 hx hb hts hown hK S.1 d_Ex_due_39 ?_
          refine lv_iload_n hx hb d_Ex_due_42 rfl (lv_at hl 1 rfl) ?_
          refine ld_C_14 (k := (v1).toNatClampNeg) hx hb hK S.1 qv1_16 rfl d_Ex_due_43 ?_
          refine lv_icmp_ge (tgt := 49) hx hb d_Ex_due_44 rfl (fun h44 => ?_) (fun h44 => ?_)
          · have hq := hq.trans (if_pos h44)
            exact B_Ex_due_49_12 _ _ _ _ qv1_16 (lv_sub hl [0, 1, 2] rfl) S hq
          · have hq := hq.trans (if_neg h44)
            exact B_Ex_due_47_12 _ _ _ (lv_sub hl [0, 2] rfl) S hq
  have B_Ex_due_49_11 : ∀ (v1 : Int32) (H : Heap) (locs : List Loc) (ls : Array Slot), (vp_in v1 16) → lv_has ls 3 [(0, .ref (a 10)), (1, .int v1), (2, .int (11 : Int32))] → St D (wC cI cZ a) A s σ H locs → F = s_Ex_due_49_11 v1 σ → W p l e ({ frames := 2, cells := 0, slots := 0, locals := 86 } : Room) s m args below meth c H locs 0 0 Q (F0 m 49 ls []) := by
    intro v1 H locs ls qv1_16 hl S hq
    refine lv_iinc (k := 2) (v := (12 : Int32)) hx hb d_Ex_due_49 hl rfl (by first | rfl | decide) (by decide) rfl (fun ls hl => ?_)
    refine lv_goto (tgt := 4) hx hb d_Ex_due_52 rfl ?_
    exact B_Ex_due_4_12 _ _ _ _ qv1_16 (lv_sub hl [1, 2, 0] rfl) S hq
  have B_Ex_due_47_11 : ∀ (H : Heap) (locs : List Loc) (ls : Array Slot), lv_has ls 3 [(0, .ref (a 10)), (2, .int (11 : Int32))] → St D (wC cI cZ a) A s σ H locs → F = s_Ex_due_47_11 σ → W p l e ({ frames := 2, cells := 0, slots := 0, locals := 86 } : Room) s m args below meth c H locs 0 0 Q (F0 m 47 ls []) := by
    intro H locs ls hl S hq
    refine lv_iload_n hx hb d_Ex_due_47 rfl (lv_at hl 1 rfl) ?_
    refine lv_istore_n hx hb d_Ex_due_48 rfl hl (by decide) rfl (fun ls hl => ?_)
    exact B_Ex_due_49_11 _ _ _ _ (vin_dec (by decide)) (lv_sub hl [1, 0, 2] rfl) S hq
  have B_Ex_due_4_11 : ∀ (v1 : Int32) (H : Heap) (locs : List Loc) (ls : Array Slot), (vp_in v1 16) → lv_has ls 3 [(0, .ref (a 10)), (1, .int v1), (2, .int (11 : Int32))] → St D (wC cI cZ a) A s σ H locs → F = s_Ex_due_4_11 v1 σ → W p l e ({ frames := 2, cells := 0, slots := 0, locals := 86 } : Room) s m args below meth c H locs 0 0 Q (F0 m 4 ls []) := by
    intro v1 H locs ls qv1_16 hl S hq
    refine lv_iload_n hx hb d_Ex_due_4 rfl (lv_at hl 2 rfl) ?_
    refine lv_bipush (v := 15) hx hb d_Ex_due_5 (by decide) ?_
    refine lv_icmp_gt (tgt := 55) hx hb d_Ex_due_7 rfl (fun h9 => absurd h9 (by decide)) (fun _ => ?_)
    refine lv_aload_n hx hb d_Ex_due_10 rfl (lv_at hl 0 rfl) ?_
    refine g_Ex_15 hx hb hts hown hK S.1 d_Ex_due_11 ?_
    refine lv_iload_n hx hb d_Ex_due_14 rfl (lv_at hl 2 rfl) ?_
    refine ld_C_12 (k := 11) hx hb hK S.1 (vin_dec (by decide)) (by decide) d_Ex_due_15 ?_
    refine lv_if_eq (tgt := 49) hx hb d_Ex_due_16 rfl (fun h16 => ?_) (fun h16 => ?_)
    · have hq := hq.trans (if_pos h16)
      exact B_Ex_due_49_11 _ _ _ _ qv1_16 (lv_sub hl [0, 1, 2] rfl) S hq
    · have hq := hq.trans (if_neg h16)
      refine lv_aload_n hx hb d_Ex_due_19 rfl (lv_at hl 0 rfl) ?_
      refine g_Ex_9 hx hb hts hown hK S.1 d_Ex_due_20 ?_
      refine lv_iload_n hx hb d_Ex_due_23 rfl (lv_at hl 2 rfl) ?_
      refine ld_C_11 (k := 11) hx hb hK S.1 (vin_dec (by decide)) (by decide) d_Ex_due_24 ?_
      refine lv_if_eq (tgt := 49) hx hb d_Ex_due_25 rfl (fun h25 => ?_) (fun h25 => ?_)
      · have hq := hq.trans (if_pos h25)
        exact B_Ex_due_49_11 _ _ _ _ qv1_16 (lv_sub hl [0, 1, 2] rfl) S hq
      · have hq := hq.trans (if_neg h25)
        refine lv_iload_n hx hb d_Ex_due_28 rfl (lv_at hl 1 rfl) ?_
        refine lv_if_eq (tgt := 47) hx hb d_Ex_due_29 rfl (fun h29 => ?_) (fun h29 => ?_)
        · have hq := hq.trans (if_pos h29)
          exact B_Ex_due_47_11 _ _ _ (lv_sub hl [0, 2] rfl) S hq
        · have hq := hq.trans (if_neg h29)
          refine lv_aload_n hx hb d_Ex_due_32 rfl (lv_at hl 0 rfl) ?_
          refine g_Ex_21 hx hb hts hown hK S.1 d_Ex_due_33 ?_
          refine lv_iload_n hx hb d_Ex_due_36 rfl (lv_at hl 2 rfl) ?_
          refine ld_C_14 (k := 11) hx hb hK S.1 (vin_dec (by decide)) (by decide) d_Ex_due_37 ?_
          refine lv_aload_n hx hb d_Ex_due_38 rfl (lv_at hl 0 rfl) ?_
          refine g_Ex_21 hx hb hts hown hK S.1 d_Ex_due_39 ?_
          refine lv_iload_n hx hb d_Ex_due_42 rfl (lv_at hl 1 rfl) ?_
          refine ld_C_14 (k := (v1).toNatClampNeg) hx hb hK S.1 qv1_16 rfl d_Ex_due_43 ?_
          refine lv_icmp_ge (tgt := 49) hx hb d_Ex_due_44 rfl (fun h44 => ?_) (fun h44 => ?_)
          · have hq := hq.trans (if_pos h44)
            exact B_Ex_due_49_11 _ _ _ _ qv1_16 (lv_sub hl [0, 1, 2] rfl) S hq
          · have hq := hq.trans (if_neg h44)
            exact B_Ex_due_47_11 _ _ _ (lv_sub hl [0, 2] rfl) S hq
  have B_Ex_due_49_10 : ∀ (v1 : Int32) (H : Heap) (locs : List Loc) (ls : Array Slot), (vp_in v1 16) → lv_has ls 3 [(0, .ref (a 10)), (1, .int v1), (2, .int (10 : Int32))] → St D (wC cI cZ a) A s σ H locs → F = s_Ex_due_49_10 v1 σ → W p l e ({ frames := 2, cells := 0, slots := 0, locals := 86 } : Room) s m args below meth c H locs 0 0 Q (F0 m 49 ls []) := by
    intro v1 H locs ls qv1_16 hl S hq
    refine lv_iinc (k := 2) (v := (11 : Int32)) hx hb d_Ex_due_49 hl rfl (by first | rfl | decide) (by decide) rfl (fun ls hl => ?_)
    refine lv_goto (tgt := 4) hx hb d_Ex_due_52 rfl ?_
    exact B_Ex_due_4_11 _ _ _ _ qv1_16 (lv_sub hl [1, 2, 0] rfl) S hq
  have B_Ex_due_47_10 : ∀ (H : Heap) (locs : List Loc) (ls : Array Slot), lv_has ls 3 [(0, .ref (a 10)), (2, .int (10 : Int32))] → St D (wC cI cZ a) A s σ H locs → F = s_Ex_due_47_10 σ → W p l e ({ frames := 2, cells := 0, slots := 0, locals := 86 } : Room) s m args below meth c H locs 0 0 Q (F0 m 47 ls []) := by
    intro H locs ls hl S hq
    refine lv_iload_n hx hb d_Ex_due_47 rfl (lv_at hl 1 rfl) ?_
    refine lv_istore_n hx hb d_Ex_due_48 rfl hl (by decide) rfl (fun ls hl => ?_)
    exact B_Ex_due_49_10 _ _ _ _ (vin_dec (by decide)) (lv_sub hl [1, 0, 2] rfl) S hq
  have B_Ex_due_4_10 : ∀ (v1 : Int32) (H : Heap) (locs : List Loc) (ls : Array Slot), (vp_in v1 16) → lv_has ls 3 [(0, .ref (a 10)), (1, .int v1), (2, .int (10 : Int32))] → St D (wC cI cZ a) A s σ H locs → F = s_Ex_due_4_10 v1 σ → W p l e ({ frames := 2, cells := 0, slots := 0, locals := 86 } : Room) s m args below meth c H locs 0 0 Q (F0 m 4 ls []) := by
    intro v1 H locs ls qv1_16 hl S hq
    refine lv_iload_n hx hb d_Ex_due_4 rfl (lv_at hl 2 rfl) ?_
    refine lv_bipush (v := 15) hx hb d_Ex_due_5 (by decide) ?_
    refine lv_icmp_gt (tgt := 55) hx hb d_Ex_due_7 rfl (fun h9 => absurd h9 (by decide)) (fun _ => ?_)
    refine lv_aload_n hx hb d_Ex_due_10 rfl (lv_at hl 0 rfl) ?_
    refine g_Ex_15 hx hb hts hown hK S.1 d_Ex_due_11 ?_
    refine lv_iload_n hx hb d_Ex_due_14 rfl (lv_at hl 2 rfl) ?_
    refine ld_C_12 (k := 10) hx hb hK S.1 (vin_dec (by decide)) (by decide) d_Ex_due_15 ?_
    refine lv_if_eq (tgt := 49) hx hb d_Ex_due_16 rfl (fun h16 => ?_) (fun h16 => ?_)
    · have hq := hq.trans (if_pos h16)
      exact B_Ex_due_49_10 _ _ _ _ qv1_16 (lv_sub hl [0, 1, 2] rfl) S hq
    · have hq := hq.trans (if_neg h16)
      refine lv_aload_n hx hb d_Ex_due_19 rfl (lv_at hl 0 rfl) ?_
      refine g_Ex_9 hx hb hts hown hK S.1 d_Ex_due_20 ?_
      refine lv_iload_n hx hb d_Ex_due_23 rfl (lv_at hl 2 rfl) ?_
      refine ld_C_11 (k := 10) hx hb hK S.1 (vin_dec (by decide)) (by decide) d_Ex_due_24 ?_
      refine lv_if_eq (tgt := 49) hx hb d_Ex_due_25 rfl (fun h25 => ?_) (fun h25 => ?_)
      · have hq := hq.trans (if_pos h25)
        exact B_Ex_due_49_10 _ _ _ _ qv1_16 (lv_sub hl [0, 1, 2] rfl) S hq
      · have hq := hq.trans (if_neg h25)
        refine lv_iload_n hx hb d_Ex_due_28 rfl (lv_at hl 1 rfl) ?_
        refine lv_if_eq (tgt := 47) hx hb d_Ex_due_29 rfl (fun h29 => ?_) (fun h29 => ?_)
        · have hq := hq.trans (if_pos h29)
          exact B_Ex_due_47_10 _ _ _ (lv_sub hl [0, 2] rfl) S hq
        · have hq := hq.trans (if_neg h29)
          refine lv_aload_n hx hb d_Ex_due_32 rfl (lv_at hl 0 rfl) ?_
          refine g_Ex_21 hx hb hts hown hK S.1 d_Ex_due_33 ?_
          refine lv_iload_n hx hb d_Ex_due_36 rfl (lv_at hl 2 rfl) ?_
          refine ld_C_14 (k := 10) hx hb hK S.1 (vin_dec (by decide)) (by decide) d_Ex_due_37 ?_
          refine lv_aload_n hx hb d_Ex_due_38 rfl (lv_at hl 0 rfl) ?_
          refine g_Ex_21 hx hb hts hown hK S.1 d_Ex_due_39 ?_
          refine lv_iload_n hx hb d_Ex_due_42 rfl (lv_at hl 1 rfl) ?_
          refine ld_C_14 (k := (v1).toNatClampNeg) hx hb hK S.1 qv1_16 rfl d_Ex_due_43 ?_
          refine lv_icmp_ge (tgt := 49) hx hb d_Ex_due_44 rfl (fun h44 => ?_) (fun h44 => ?_)
          · have hq := hq.trans (if_pos h44)
            exact B_Ex_due_49_10 _ _ _ _ qv1_16 (lv_sub hl [0, 1, 2] rfl) S hq
          · have hq := hq.trans (if_neg h44)
            exact B_Ex_due_47_10 _ _ _ (lv_sub hl [0, 2] rfl) S hq
  have B_Ex_due_49_9 : ∀ (v1 : Int32) (H : Heap) (locs : List Loc) (ls : Array Slot), (vp_in v1 16) → lv_has ls 3 [(0, .ref (a 10)), (1, .int v1), (2, .int (9 : Int32))] → St D (wC cI cZ a) A s σ H locs → F = s_Ex_due_49_9 v1 σ → W p l e ({ frames := 2, cells := 0, slots := 0, locals := 86 } : Room) s m args below meth c H locs 0 0 Q (F0 m 49 ls []) := by
    intro v1 H locs ls qv1_16 hl S hq
    refine lv_iinc (k := 2) (v := (10 : Int32)) hx hb d_Ex_due_49 hl rfl (by first | rfl | decide) (by decide) rfl (fun ls hl => ?_)
    refine lv_goto (tgt := 4) hx hb d_Ex_due_52 rfl ?_
    exact B_Ex_due_4_10 _ _ _ _ qv1_16 (lv_sub hl [1, 2, 0] rfl) S hq
  have B_Ex_due_47_9 : ∀ (H : Heap) (locs : List Loc) (ls : Array Slot), lv_has ls 3 [(0, .ref (a 10)), (2, .int (9 : Int32))] → St D (wC cI cZ a) A s σ H locs → F = s_Ex_due_47_9 σ → W p l e ({ frames := 2, cells := 0, slots := 0, locals := 86 } : Room) s m args below meth c H locs 0 0 Q (F0 m 47 ls []) := by
    intro H locs ls hl S hq
    refine lv_iload_n hx hb d_Ex_due_47 rfl (lv_at hl 1 rfl) ?_
    refine lv_istore_n hx hb d_Ex_due_48 rfl hl (by decide) rfl (fun ls hl => ?_)
    exact B_Ex_due_49_9 _ _ _ _ (vin_dec (by decide)) (lv_sub hl [1, 0, 2] rfl) S hq
  have B_Ex_due_4_9 : ∀ (v1 : Int32) (H : Heap) (locs : List Loc) (ls : Array Slot), (vp_in v1 16) → lv_has ls 3 [(0, .ref (a 10)), (1, .int v1), (2, .int (9 : Int32))] → St D (wC cI cZ a) A s σ H locs → F = s_Ex_due_4_9 v1 σ → W p l e ({ frames := 2, cells := 0, slots := 0, locals := 86 } : Room) s m args below meth c H locs 0 0 Q (F0 m 4 ls []) := by
    intro v1 H locs ls qv1_16 hl S hq
    refine lv_iload_n hx hb d_Ex_due_4 rfl (lv_at hl 2 rfl) ?_
    refine lv_bipush (v := 15) hx hb d_Ex_due_5 (by decide) ?_
    refine lv_icmp_gt (tgt := 55) hx hb d_Ex_due_7 rfl (fun h9 => absurd h9 (by decide)) (fun _ => ?_)
    refine lv_aload_n hx hb d_Ex_due_10 rfl (lv_at hl 0 rfl) ?_
    refine g_Ex_15 hx hb hts hown hK S.1 d_Ex_due_11 ?_
    refine lv_iload_n hx hb d_Ex_due_14 rfl (lv_at hl 2 rfl) ?_
    refine ld_C_12 (k := 9) hx hb hK S.1 (vin_dec (by decide)) (by decide) d_Ex_due_15 ?_
    refine lv_if_eq (tgt := 49) hx hb d_Ex_due_16 rfl (fun h16 => ?_) (fun h16 => ?_)
    · have hq := hq.trans (if_pos h16)
      exact B_Ex_due_49_9 _ _ _ _ qv1_16 (lv_sub hl [0, 1, 2] rfl) S hq
    · have hq := hq.trans (if_neg h16)
      refine lv_aload_n hx hb d_Ex_due_19 rfl (lv_at hl 0 rfl) ?_
      refine g_Ex_9 hx hb hts hown hK S.1 d_Ex_due_20 ?_
      refine lv_iload_n hx hb d_Ex_due_23 rfl (lv_at hl 2 rfl) ?_
      refine ld_C_11 (k := 9) hx hb hK S.1 (vin_dec (by decide)) (by decide) d_Ex_due_24 ?_
      refine lv_if_eq (tgt := 49) hx hb d_Ex_due_25 rfl (fun h25 => ?_) (fun h25 => ?_)
      · have hq := hq.trans (if_pos h25)
        exact B_Ex_due_49_9 _ _ _ _ qv1_16 (lv_sub hl [0, 1, 2] rfl) S hq
      · have hq := hq.trans (if_neg h25)
        refine lv_iload_n hx hb d_Ex_due_28 rfl (lv_at hl 1 rfl) ?_
        refine lv_if_eq (tgt := 47) hx hb d_Ex_due_29 rfl (fun h29 => ?_) (fun h29 => ?_)
        · have hq := hq.trans (if_pos h29)
          exact B_Ex_due_47_9 _ _ _ (lv_sub hl [0, 2] rfl) S hq
        · have hq := hq.trans (if_neg h29)
          refine lv_aload_n hx hb d_Ex_due_32 rfl (lv_at hl 0 rfl) ?_
          refine g_Ex_21 hx hb hts hown hK S.1 d_Ex_due_33 ?_
          refine lv_iload_n hx hb d_Ex_due_36 rfl (lv_at hl 2 rfl) ?_
          refine ld_C_14 (k := 9) hx hb hK S.1 (vin_dec (by decide)) (by decide) d_Ex_due_37 ?_
          refine lv_aload_n hx hb d_Ex_due_38 rfl (lv_at hl 0 rfl) ?_
          refine g_Ex_21 hx hb hts hown hK S.1 d_Ex_due_39 ?_
          refine lv_iload_n hx hb d_Ex_due_42 rfl (lv_at hl 1 rfl) ?_
          refine ld_C_14 (k := (v1).toNatClampNeg) hx hb hK S.1 qv1_16 rfl d_Ex_due_43 ?_
          refine lv_icmp_ge (tgt := 49) hx hb d_Ex_due_44 rfl (fun h44 => ?_) (fun h44 => ?_)
          · have hq := hq.trans (if_pos h44)
            exact B_Ex_due_49_9 _ _ _ _ qv1_16 (lv_sub hl [0, 1, 2] rfl) S hq
          · have hq := hq.trans (if_neg h44)
            exact B_Ex_due_47_9 _ _ _ (lv_sub hl [0, 2] rfl) S hq
  have B_Ex_due_49_8 : ∀ (v1 : Int32) (H : Heap) (locs : List Loc) (ls : Array Slot), (vp_in v1 16) → lv_has ls 3 [(0, .ref (a 10)), (1, .int v1), (2, .int (8 : Int32))] → St D (wC cI cZ a) A s σ H locs → F = s_Ex_due_49_8 v1 σ → W p l e ({ frames := 2, cells := 0, slots := 0, locals := 86 } : Room) s m args below meth c H locs 0 0 Q (F0 m 49 ls []) := by
    intro v1 H locs ls qv1_16 hl S hq
    refine lv_iinc (k := 2) (v := (9 : Int32)) hx hb d_Ex_due_49 hl rfl (by first | rfl | decide) (by decide) rfl (fun ls hl => ?_)
    refine lv_goto (tgt := 4) hx hb d_Ex_due_52 rfl ?_
    exact B_Ex_due_4_9 _ _ _ _ qv1_16 (lv_sub hl [1, 2, 0] rfl) S hq
  have B_Ex_due_47_8 : ∀ (H : Heap) (locs : List Loc) (ls : Array Slot), lv_has ls 3 [(0, .ref (a 10)), (2, .int (8 : Int32))] → St D (wC cI cZ a) A s σ H locs → F = s_Ex_due_47_8 σ → W p l e ({ frames := 2, cells := 0, slots := 0, locals := 86 } : Room) s m args below meth c H locs 0 0 Q (F0 m 47 ls []) := by
    intro H locs ls hl S hq
    refine lv_iload_n hx hb d_Ex_due_47 rfl (lv_at hl 1 rfl) ?_
    refine lv_istore_n hx hb d_Ex_due_48 rfl hl (by decide) rfl (fun ls hl => ?_)
    exact B_Ex_due_49_8 _ _ _ _ (vin_dec (by decide)) (lv_sub hl [1, 0, 2] rfl) S hq
  have B_Ex_due_4_8 : ∀ (v1 : Int32) (H : Heap) (locs : List Loc) (ls : Array Slot), (vp_in v1 16) → lv_has ls 3 [(0, .ref (a 10)), (1, .int v1), (2, .int (8 : Int32))] → St D (wC cI cZ a) A s σ H locs → F = s_Ex_due_4_8 v1 σ → W p l e ({ frames := 2, cells := 0, slots := 0, locals := 86 } : Room) s m args below meth c H locs 0 0 Q (F0 m 4 ls []) := by
    intro v1 H locs ls qv1_16 hl S hq
    refine lv_iload_n hx hb d_Ex_due_4 rfl (lv_at hl 2 rfl) ?_
    refine lv_bipush (v := 15) hx hb d_Ex_due_5 (by decide) ?_
    refine lv_icmp_gt (tgt := 55) hx hb d_Ex_due_7 rfl (fun h9 => absurd h9 (by decide)) (fun _ => ?_)
    refine lv_aload_n hx hb d_Ex_due_10 rfl (lv_at hl 0 rfl) ?_
    refine g_Ex_15 hx hb hts hown hK S.1 d_Ex_due_11 ?_
    refine lv_iload_n hx hb d_Ex_due_14 rfl (lv_at hl 2 rfl) ?_
    refine ld_C_12 (k := 8) hx hb hK S.1 (vin_dec (by decide)) (by decide) d_Ex_due_15 ?_
    refine lv_if_eq (tgt := 49) hx hb d_Ex_due_16 rfl (fun h16 => ?_) (fun h16 => ?_)
    · have hq := hq.trans (if_pos h16)
      exact B_Ex_due_49_8 _ _ _ _ qv1_16 (lv_sub hl [0, 1, 2] rfl) S hq
    · have hq := hq.trans (if_neg h16)
      refine lv_aload_n hx hb d_Ex_due_19 rfl (lv_at hl 0 rfl) ?_
      refine g_Ex_9 hx hb hts hown hK S.1 d_Ex_due_20 ?_
      refine lv_iload_n hx hb d_Ex_due_23 rfl (lv_at hl 2 rfl) ?_
      refine ld_C_11 (k := 8) hx hb hK S.1 (vin_dec (by decide)) (by decide) d_Ex_due_24 ?_
      refine lv_if_eq (tgt := 49) hx hb d_Ex_due_25 rfl (fun h25 => ?_) (fun h25 => ?_)
      · have hq := hq.trans (if_pos h25)
        exact B_Ex_due_49_8 _ _ _ _ qv1_16 (lv_sub hl [0, 1, 2] rfl) S hq
      · have hq := hq.trans (if_neg h25)
        refine lv_iload_n hx hb d_Ex_due_28 rfl (lv_at hl 1 rfl) ?_
        refine lv_if_eq (tgt := 47) hx hb d_Ex_due_29 rfl (fun h29 => ?_) (fun h29 => ?_)
        · have hq := hq.trans (if_pos h29)
          exact B_Ex_due_47_8 _ _ _ (lv_sub hl [0, 2] rfl) S hq
        · have hq := hq.trans (if_neg h29)
          refine lv_aload_n hx hb d_Ex_due_32 rfl (lv_at hl 0 rfl) ?_
          refine g_Ex_21 hx hb hts hown hK S.1 d_Ex_due_33 ?_
          refine lv_iload_n hx hb d_Ex_due_36 rfl (lv_at hl 2 rfl) ?_
          refine ld_C_14 (k := 8) hx hb hK S.1 (vin_dec (by decide)) (by decide) d_Ex_due_37 ?_
          refine lv_aload_n hx hb d_Ex_due_38 rfl (lv_at hl 0 rfl) ?_
          refine g_Ex_21 hx hb hts hown hK S.1 d_Ex_due_39 ?_
          refine lv_iload_n hx hb d_Ex_due_42 rfl (lv_at hl 1 rfl) ?_
          refine ld_C_14 (k := (v1).toNatClampNeg) hx hb hK S.1 qv1_16 rfl d_Ex_due_43 ?_
          refine lv_icmp_ge (tgt := 49) hx hb d_Ex_due_44 rfl (fun h44 => ?_) (fun h44 => ?_)
          · have hq := hq.trans (if_pos h44)
            exact B_Ex_due_49_8 _ _ _ _ qv1_16 (lv_sub hl [0, 1, 2] rfl) S hq
          · have hq := hq.trans (if_neg h44)
            exact B_Ex_due_47_8 _ _ _ (lv_sub hl [0, 2] rfl) S hq
  have B_Ex_due_49_7 : ∀ (v1 : Int32) (H : Heap) (locs : List Loc) (ls : Array Slot), (vp_in v1 16) → lv_has ls 3 [(0, .ref (a 10)), (1, .int v1), (2, .int (7 : Int32))] → St D (wC cI cZ a) A s σ H locs → F = s_Ex_due_49_7 v1 σ → W p l e ({ frames := 2, cells := 0, slots := 0, locals := 86 } : Room) s m args below meth c H locs 0 0 Q (F0 m 49 ls []) := by
    intro v1 H locs ls qv1_16 hl S hq
    refine lv_iinc (k := 2) (v := (8 : Int32)) hx hb d_Ex_due_49 hl rfl (by first | rfl | decide) (by decide) rfl (fun ls hl => ?_)
    refine lv_goto (tgt := 4) hx hb d_Ex_due_52 rfl ?_
    exact B_Ex_due_4_8 _ _ _ _ qv1_16 (lv_sub hl [1, 2, 0] rfl) S hq
  have B_Ex_due_47_7 : ∀ (H : Heap) (locs : List Loc) (ls : Array Slot), lv_has ls 3 [(0, .ref (a 10)), (2, .int (7 : Int32))] → St D (wC cI cZ a) A s σ H locs → F = s_Ex_due_47_7 σ → W p l e ({ frames := 2, cells := 0, slots := 0, locals := 86 } : Room) s m args below meth c H locs 0 0 Q (F0 m 47 ls []) := by
    intro H locs ls hl S hq
    refine lv_iload_n hx hb d_Ex_due_47 rfl (lv_at hl 1 rfl) ?_
    refine lv_istore_n hx hb d_Ex_due_48 rfl hl (by decide) rfl (fun ls hl => ?_)
    exact B_Ex_due_49_7 _ _ _ _ (vin_dec (by decide)) (lv_sub hl [1, 0, 2] rfl) S hq
  have B_Ex_due_4_7 : ∀ (v1 : Int32) (H : Heap) (locs : List Loc) (ls : Array Slot), (vp_in v1 16) → lv_has ls 3 [(0, .ref (a 10)), (1, .int v1), (2, .int (7 : Int32))] → St D (wC cI cZ a) A s σ H locs → F = s_Ex_due_4_7 v1 σ → W p l e ({ frames := 2, cells := 0, slots := 0, locals := 86 } : Room) s m args below meth c H locs 0 0 Q (F0 m 4 ls []) := by
    intro v1 H locs ls qv1_16 hl S hq
    refine lv_iload_n hx hb d_Ex_due_4 rfl (lv_at hl 2 rfl) ?_
    refine lv_bipush (v := 15) hx hb d_Ex_due_5 (by decide) ?_
    refine lv_icmp_gt (tgt := 55) hx hb d_Ex_due_7 rfl (fun h9 => absurd h9 (by decide)) (fun _ => ?_)
    refine lv_aload_n hx hb d_Ex_due_10 rfl (lv_at hl 0 rfl) ?_
    refine g_Ex_15 hx hb hts hown hK S.1 d_Ex_due_11 ?_
    refine lv_iload_n hx hb d_Ex_due_14 rfl (lv_at hl 2 rfl) ?_
    refine ld_C_12 (k := 7) hx hb hK S.1 (vin_dec (by decide)) (by decide) d_Ex_due_15 ?_
    refine lv_if_eq (tgt := 49) hx hb d_Ex_due_16 rfl (fun h16 => ?_) (fun h16 => ?_)
    · have hq := hq.trans (if_pos h16)
      exact B_Ex_due_49_7 _ _ _ _ qv1_16 (lv_sub hl [0, 1, 2] rfl) S hq
    · have hq := hq.trans (if_neg h16)
      refine lv_aload_n hx hb d_Ex_due_19 rfl (lv_at hl 0 rfl) ?_
      refine g_Ex_9 hx hb hts hown hK S.1 d_Ex_due_20 ?_
      refine lv_iload_n hx hb d_Ex_due_23 rfl (lv_at hl 2 rfl) ?_
      refine ld_C_11 (k := 7) hx hb hK S.1 (vin_dec (by decide)) (by decide) d_Ex_due_24 ?_
      refine lv_if_eq (tgt := 49) hx hb d_Ex_due_25 rfl (fun h25 => ?_) (fun h25 => ?_)
      · have hq := hq.trans (if_pos h25)
        exact B_Ex_due_49_7 _ _ _ _ qv1_16 (lv_sub hl [0, 1, 2] rfl) S hq
      · have hq := hq.trans (if_neg h25)
        refine lv_iload_n hx hb d_Ex_due_28 rfl (lv_at hl 1 rfl) ?_
        refine lv_if_eq (tgt := 47) hx hb d_Ex_due_29 rfl (fun h29 => ?_) (fun h29 => ?_)
        · have hq := hq.trans (if_pos h29)
          exact B_Ex_due_47_7 _ _ _ (lv_sub hl [0, 2] rfl) S hq
        · have hq := hq.trans (if_neg h29)
          refine lv_aload_n hx hb d_Ex_due_32 rfl (lv_at hl 0 rfl) ?_
          refine g_Ex_21 hx hb hts hown hK S.1 d_Ex_due_33 ?_
          refine lv_iload_n hx hb d_Ex_due_36 rfl (lv_at hl 2 rfl) ?_
          refine ld_C_14 (k := 7) hx hb hK S.1 (vin_dec (by decide)) (by decide) d_Ex_due_37 ?_
          refine lv_aload_n hx hb d_Ex_due_38 rfl (lv_at hl 0 rfl) ?_
          refine g_Ex_21 hx hb hts hown hK S.1 d_Ex_due_39 ?_
          refine lv_iload_n hx hb d_Ex_due_42 rfl (lv_at hl 1 rfl) ?_
          refine ld_C_14 (k := (v1).toNatClampNeg) hx hb hK S.1 qv1_16 rfl d_Ex_due_43 ?_
          refine lv_icmp_ge (tgt := 49) hx hb d_Ex_due_44 rfl (fun h44 => ?_) (fun h44 => ?_)
          · have hq := hq.trans (if_pos h44)
            exact B_Ex_due_49_7 _ _ _ _ qv1_16 (lv_sub hl [0, 1, 2] rfl) S hq
          · have hq := hq.trans (if_neg h44)
            exact B_Ex_due_47_7 _ _ _ (lv_sub hl [0, 2] rfl) S hq
  have B_Ex_due_49_6 : ∀ (v1 : Int32) (H : Heap) (locs : List Loc) (ls : Array Slot), (vp_in v1 16) → lv_has ls 3 [(0, .ref (a 10)), (1, .int v1), (2, .int (6 : Int32))] → St D (wC cI cZ a) A s σ H locs → F = s_Ex_due_49_6 v1 σ → W p l e ({ frames := 2, cells := 0, slots := 0, locals := 86 } : Room) s m args below meth c H locs 0 0 Q (F0 m 49 ls []) := by
    intro v1 H locs ls qv1_16 hl S hq
    refine lv_iinc (k := 2) (v := (7 : Int32)) hx hb d_Ex_due_49 hl rfl (by first | rfl | decide) (by decide) rfl (fun ls hl => ?_)
    refine lv_goto (tgt := 4) hx hb d_Ex_due_52 rfl ?_
    exact B_Ex_due_4_7 _ _ _ _ qv1_16 (lv_sub hl [1, 2, 0] rfl) S hq
  have B_Ex_due_47_6 : ∀ (H : Heap) (locs : List Loc) (ls : Array Slot), lv_has ls 3 [(0, .ref (a 10)), (2, .int (6 : Int32))] → St D (wC cI cZ a) A s σ H locs → F = s_Ex_due_47_6 σ → W p l e ({ frames := 2, cells := 0, slots := 0, locals := 86 } : Room) s m args below meth c H locs 0 0 Q (F0 m 47 ls []) := by
    intro H locs ls hl S hq
    refine lv_iload_n hx hb d_Ex_due_47 rfl (lv_at hl 1 rfl) ?_
    refine lv_istore_n hx hb d_Ex_due_48 rfl hl (by decide) rfl (fun ls hl => ?_)
    exact B_Ex_due_49_6 _ _ _ _ (vin_dec (by decide)) (lv_sub hl [1, 0, 2] rfl) S hq
  have B_Ex_due_4_6 : ∀ (v1 : Int32) (H : Heap) (locs : List Loc) (ls : Array Slot), (vp_in v1 16) → lv_has ls 3 [(0, .ref (a 10)), (1, .int v1), (2, .int (6 : Int32))] → St D (wC cI cZ a) A s σ H locs → F = s_Ex_due_4_6 v1 σ → W p l e ({ frames := 2, cells := 0, slots := 0, locals := 86 } : Room) s m args below meth c H locs 0 0 Q (F0 m 4 ls []) := by
    intro v1 H locs ls qv1_16 hl S hq
    refine lv_iload_n hx hb d_Ex_due_4 rfl (lv_at hl 2 rfl) ?_
    refine lv_bipush (v := 15) hx hb d_Ex_due_5 (by decide) ?_
    refine lv_icmp_gt (tgt := 55) hx hb d_Ex_due_7 rfl (fun h9 => absurd h9 (by decide)) (fun _ => ?_)
    refine lv_aload_n hx hb d_Ex_due_10 rfl (lv_at hl 0 rfl) ?_
    refine g_Ex_15 hx hb hts hown hK S.1 d_Ex_due_11 ?_
    refine lv_iload_n hx hb d_Ex_due_14 rfl (lv_at hl 2 rfl) ?_
    refine ld_C_12 (k := 6) hx hb hK S.1 (vin_dec (by decide)) (by decide) d_Ex_due_15 ?_
    refine lv_if_eq (tgt := 49) hx hb d_Ex_due_16 rfl (fun h16 => ?_) (fun h16 => ?_)
    · have hq := hq.trans (if_pos h16)
      exact B_Ex_due_49_6 _ _ _ _ qv1_16 (lv_sub hl [0, 1, 2] rfl) S hq
    · have hq := hq.trans (if_neg h16)
      refine lv_aload_n hx hb d_Ex_due_19 rfl (lv_at hl 0 rfl) ?_
      refine g_Ex_9 hx hb hts hown hK S.1 d_Ex_due_20 ?_
      refine lv_iload_n hx hb d_Ex_due_23 rfl (lv_at hl 2 rfl) ?_
      refine ld_C_11 (k := 6) hx hb hK S.1 (vin_dec (by decide)) (by decide) d_Ex_due_24 ?_
      refine lv_if_eq (tgt := 49) hx hb d_Ex_due_25 rfl (fun h25 => ?_) (fun h25 => ?_)
      · have hq := hq.trans (if_pos h25)
        exact B_Ex_due_49_6 _ _ _ _ qv1_16 (lv_sub hl [0, 1, 2] rfl) S hq
      · have hq := hq.trans (if_neg h25)
        refine lv_iload_n hx hb d_Ex_due_28 rfl (lv_at hl 1 rfl) ?_
        refine lv_if_eq (tgt := 47) hx hb d_Ex_due_29 rfl (fun h29 => ?_) (fun h29 => ?_)
        · have hq := hq.trans (if_pos h29)
          exact B_Ex_due_47_6 _ _ _ (lv_sub hl [0, 2] rfl) S hq
        · have hq := hq.trans (if_neg h29)
          refine lv_aload_n hx hb d_Ex_due_32 rfl (lv_at hl 0 rfl) ?_
          refine g_Ex_21 hx hb hts hown hK S.1 d_Ex_due_33 ?_
          refine lv_iload_n hx hb d_Ex_due_36 rfl (lv_at hl 2 rfl) ?_
          refine ld_C_14 (k := 6) hx hb hK S.1 (vin_dec (by decide)) (by decide) d_Ex_due_37 ?_
          refine lv_aload_n hx hb d_Ex_due_38 rfl (lv_at hl 0 rfl) ?_
          refine g_Ex_21 hx hb hts hown hK S.1 d_Ex_due_39 ?_
          refine lv_iload_n hx hb d_Ex_due_42 rfl (lv_at hl 1 rfl) ?_
          refine ld_C_14 (k := (v1).toNatClampNeg) hx hb hK S.1 qv1_16 rfl d_Ex_due_43 ?_
          refine lv_icmp_ge (tgt := 49) hx hb d_Ex_due_44 rfl (fun h44 => ?_) (fun h44 => ?_)
          · have hq := hq.trans (if_pos h44)
            exact B_Ex_due_49_6 _ _ _ _ qv1_16 (lv_sub hl [0, 1, 2] rfl) S hq
          · have hq := hq.trans (if_neg h44)
            exact B_Ex_due_47_6 _ _ _ (lv_sub hl [0, 2] rfl) S hq
  have B_Ex_due_49_5 : ∀ (v1 : Int32) (H : Heap) (locs : List Loc) (ls : Array Slot), (vp_in v1 16) → lv_has ls 3 [(0, .ref (a 10)), (1, .int v1), (2, .int (5 : Int32))] → St D (wC cI cZ a) A s σ H locs → F = s_Ex_due_49_5 v1 σ → W p l e ({ frames := 2, cells := 0, slots := 0, locals := 86 } : Room) s m args below meth c H locs 0 0 Q (F0 m 49 ls []) := by
    intro v1 H locs ls qv1_16 hl S hq
    refine lv_iinc (k := 2) (v := (6 : Int32)) hx hb d_Ex_due_49 hl rfl (by first | rfl | decide) (by decide) rfl (fun ls hl => ?_)
    refine lv_goto (tgt := 4) hx hb d_Ex_due_52 rfl ?_
    exact B_Ex_due_4_6 _ _ _ _ qv1_16 (lv_sub hl [1, 2, 0] rfl) S hq
  have B_Ex_due_47_5 : ∀ (H : Heap) (locs : List Loc) (ls : Array Slot), lv_has ls 3 [(0, .ref (a 10)), (2, .int (5 : Int32))] → St D (wC cI cZ a) A s σ H locs → F = s_Ex_due_47_5 σ → W p l e ({ frames := 2, cells := 0, slots := 0, locals := 86 } : Room) s m args below meth c H locs 0 0 Q (F0 m 47 ls []) := by
    intro H locs ls hl S hq
    refine lv_iload_n hx hb d_Ex_due_47 rfl (lv_at hl 1 rfl) ?_
    refine lv_istore_n hx hb d_Ex_due_48 rfl hl (by decide) rfl (fun ls hl => ?_)
    exact B_Ex_due_49_5 _ _ _ _ (vin_dec (by decide)) (lv_sub hl [1, 0, 2] rfl) S hq
  have B_Ex_due_4_5 : ∀ (v1 : Int32) (H : Heap) (locs : List Loc) (ls : Array Slot), (vp_in v1 16) → lv_has ls 3 [(0, .ref (a 10)), (1, .int v1), (2, .int (5 : Int32))] → St D (wC cI cZ a) A s σ H locs → F = s_Ex_due_4_5 v1 σ → W p l e ({ frames := 2, cells := 0, slots := 0, locals := 86 } : Room) s m args below meth c H locs 0 0 Q (F0 m 4 ls []) := by
    intro v1 H locs ls qv1_16 hl S hq
    refine lv_iload_n hx hb d_Ex_due_4 rfl (lv_at hl 2 rfl) ?_
    refine lv_bipush (v := 15) hx hb d_Ex_due_5 (by decide) ?_
    refine lv_icmp_gt (tgt := 55) hx hb d_Ex_due_7 rfl (fun h9 => absurd h9 (by decide)) (fun _ => ?_)
    refine lv_aload_n hx hb d_Ex_due_10 rfl (lv_at hl 0 rfl) ?_
    refine g_Ex_15 hx hb hts hown hK S.1 d_Ex_due_11 ?_
    refine lv_iload_n hx hb d_Ex_due_14 rfl (lv_at hl 2 rfl) ?_
    refine ld_C_12 (k := 5) hx hb hK S.1 (vin_dec (by decide)) (by decide) d_Ex_due_15 ?_
    refine lv_if_eq (tgt := 49) hx hb d_Ex_due_16 rfl (fun h16 => ?_) (fun h16 => ?_)
    · have hq := hq.trans (if_pos h16)
      exact B_Ex_due_49_5 _ _ _ _ qv1_16 (lv_sub hl [0, 1, 2] rfl) S hq
    · have hq := hq.trans (if_neg h16)
      refine lv_aload_n hx hb d_Ex_due_19 rfl (lv_at hl 0 rfl) ?_
      refine g_Ex_9 hx hb hts hown hK S.1 d_Ex_due_20 ?_
      refine lv_iload_n hx hb d_Ex_due_23 rfl (lv_at hl 2 rfl) ?_
      refine ld_C_11 (k := 5) hx hb hK S.1 (vin_dec (by decide)) (by decide) d_Ex_due_24 ?_
      refine lv_if_eq (tgt := 49) hx hb d_Ex_due_25 rfl (fun h25 => ?_) (fun h25 => ?_)
      · have hq := hq.trans (if_pos h25)
        exact B_Ex_due_49_5 _ _ _ _ qv1_16 (lv_sub hl [0, 1, 2] rfl) S hq
      · have hq := hq.trans (if_neg h25)
        refine lv_iload_n hx hb d_Ex_due_28 rfl (lv_at hl 1 rfl) ?_
        refine lv_if_eq (tgt := 47) hx hb d_Ex_due_29 rfl (fun h29 => ?_) (fun h29 => ?_)
        · have hq := hq.trans (if_pos h29)
          exact B_Ex_due_47_5 _ _ _ (lv_sub hl [0, 2] rfl) S hq
        · have hq := hq.trans (if_neg h29)
          refine lv_aload_n hx hb d_Ex_due_32 rfl (lv_at hl 0 rfl) ?_
          refine g_Ex_21 hx hb hts hown hK S.1 d_Ex_due_33 ?_
          refine lv_iload_n hx hb d_Ex_due_36 rfl (lv_at hl 2 rfl) ?_
          refine ld_C_14 (k := 5) hx hb hK S.1 (vin_dec (by decide)) (by decide) d_Ex_due_37 ?_
          refine lv_aload_n hx hb d_Ex_due_38 rfl (lv_at hl 0 rfl) ?_
          refine g_Ex_21 hx hb hts hown hK S.1 d_Ex_due_39 ?_
          refine lv_iload_n hx hb d_Ex_due_42 rfl (lv_at hl 1 rfl) ?_
          refine ld_C_14 (k := (v1).toNatClampNeg) hx hb hK S.1 qv1_16 rfl d_Ex_due_43 ?_
          refine lv_icmp_ge (tgt := 49) hx hb d_Ex_due_44 rfl (fun h44 => ?_) (fun h44 => ?_)
          · have hq := hq.trans (if_pos h44)
            exact B_Ex_due_49_5 _ _ _ _ qv1_16 (lv_sub hl [0, 1, 2] rfl) S hq
          · have hq := hq.trans (if_neg h44)
            exact B_Ex_due_47_5 _ _ _ (lv_sub hl [0, 2] rfl) S hq
  have B_Ex_due_49_4 : ∀ (v1 : Int32) (H : Heap) (locs : List Loc) (ls : Array Slot), (vp_in v1 16) → lv_has ls 3 [(0, .ref (a 10)), (1, .int v1), (2, .int (4 : Int32))] → St D (wC cI cZ a) A s σ H locs → F = s_Ex_due_49_4 v1 σ → W p l e ({ frames := 2, cells := 0, slots := 0, locals := 86 } : Room) s m args below meth c H locs 0 0 Q (F0 m 49 ls []) := by
    intro v1 H locs ls qv1_16 hl S hq
    refine lv_iinc (k := 2) (v := (5 : Int32)) hx hb d_Ex_due_49 hl rfl (by first | rfl | decide) (by decide) rfl (fun ls hl => ?_)
    refine lv_goto (tgt := 4) hx hb d_Ex_due_52 rfl ?_
    exact B_Ex_due_4_5 _ _ _ _ qv1_16 (lv_sub hl [1, 2, 0] rfl) S hq
  have B_Ex_due_47_4 : ∀ (H : Heap) (locs : List Loc) (ls : Array Slot), lv_has ls 3 [(0, .ref (a 10)), (2, .int (4 : Int32))] → St D (wC cI cZ a) A s σ H locs → F = s_Ex_due_47_4 σ → W p l e ({ frames := 2, cells := 0, slots := 0, locals := 86 } : Room) s m args below meth c H locs 0 0 Q (F0 m 47 ls []) := by
    intro H locs ls hl S hq
    refine lv_iload_n hx hb d_Ex_due_47 rfl (lv_at hl 1 rfl) ?_
    refine lv_istore_n hx hb d_Ex_due_48 rfl hl (by decide) rfl (fun ls hl => ?_)
    exact B_Ex_due_49_4 _ _ _ _ (vin_dec (by decide)) (lv_sub hl [1, 0, 2] rfl) S hq
  have B_Ex_due_4_4 : ∀ (v1 : Int32) (H : Heap) (locs : List Loc) (ls : Array Slot), (vp_in v1 16) → lv_has ls 3 [(0, .ref (a 10)), (1, .int v1), (2, .int (4 : Int32))] → St D (wC cI cZ a) A s σ H locs → F = s_Ex_due_4_4 v1 σ → W p l e ({ frames := 2, cells := 0, slots := 0, locals := 86 } : Room) s m args below meth c H locs 0 0 Q (F0 m 4 ls []) := by
    intro v1 H locs ls qv1_16 hl S hq
    refine lv_iload_n hx hb d_Ex_due_4 rfl (lv_at hl 2 rfl) ?_
    refine lv_bipush (v := 15) hx hb d_Ex_due_5 (by decide) ?_
    refine lv_icmp_gt (tgt := 55) hx hb d_Ex_due_7 rfl (fun h9 => absurd h9 (by decide)) (fun _ => ?_)
    refine lv_aload_n hx hb d_Ex_due_10 rfl (lv_at hl 0 rfl) ?_
    refine g_Ex_15 hx hb hts hown hK S.1 d_Ex_due_11 ?_
    refine lv_iload_n hx hb d_Ex_due_14 rfl (lv_at hl 2 rfl) ?_
    refine ld_C_12 (k := 4) hx hb hK S.1 (vin_dec (by decide)) (by decide) d_Ex_due_15 ?_
    refine lv_if_eq (tgt := 49) hx hb d_Ex_due_16 rfl (fun h16 => ?_) (fun h16 => ?_)
    · have hq := hq.trans (if_pos h16)
      exact B_Ex_due_49_4 _ _ _ _ qv1_16 (lv_sub hl [0, 1, 2] rfl) S hq
    · have hq := hq.trans (if_neg h16)
      refine lv_aload_n hx hb d_Ex_due_19 rfl (lv_at hl 0 rfl) ?_
      refine g_Ex_9 hx hb hts hown hK S.1 d_Ex_due_20 ?_
      refine lv_iload_n hx hb d_Ex_due_23 rfl (lv_at hl 2 rfl) ?_
      refine ld_C_11 (k := 4) hx hb hK S.1 (vin_dec (by decide)) (by decide) d_Ex_due_24 ?_
      refine lv_if_eq (tgt := 49) hx hb d_Ex_due_25 rfl (fun h25 => ?_) (fun h25 => ?_)
      · have hq := hq.trans (if_pos h25)
        exact B_Ex_due_49_4 _ _ _ _ qv1_16 (lv_sub hl [0, 1, 2] rfl) S hq
      · have hq := hq.trans (if_neg h25)
        refine lv_iload_n hx hb d_Ex_due_28 rfl (lv_at hl 1 rfl) ?_
        refine lv_if_eq (tgt := 47) hx hb d_Ex_due_29 rfl (fun h29 => ?_) (fun h29 => ?_)
        · have hq := hq.trans (if_pos h29)
          exact B_Ex_due_47_4 _ _ _ (lv_sub hl [0, 2] rfl) S hq
        · have hq := hq.trans (if_neg h29)
          refine lv_aload_n hx hb d_Ex_due_32 rfl (lv_at hl 0 rfl) ?_
          refine g_Ex_21 hx hb hts hown hK S.1 d_Ex_due_33 ?_
          refine lv_iload_n hx hb d_Ex_due_36 rfl (lv_at hl 2 rfl) ?_
          refine ld_C_14 (k := 4) hx hb hK S.1 (vin_dec (by decide)) (by decide) d_Ex_due_37 ?_
          refine lv_aload_n hx hb d_Ex_due_38 rfl (lv_at hl 0 rfl) ?_
          refine g_Ex_21 hx hb hts hown hK S.1 d_Ex_due_39 ?_
          refine lv_iload_n hx hb d_Ex_due_42 rfl (lv_at hl 1 rfl) ?_
          refine ld_C_14 (k := (v1).toNatClampNeg) hx hb hK S.1 qv1_16 rfl d_Ex_due_43 ?_
          refine lv_icmp_ge (tgt := 49) hx hb d_Ex_due_44 rfl (fun h44 => ?_) (fun h44 => ?_)
          · have hq := hq.trans (if_pos h44)
            exact B_Ex_due_49_4 _ _ _ _ qv1_16 (lv_sub hl [0, 1, 2] rfl) S hq
          · have hq := hq.trans (if_neg h44)
            exact B_Ex_due_47_4 _ _ _ (lv_sub hl [0, 2] rfl) S hq
  have B_Ex_due_49_3 : ∀ (v1 : Int32) (H : Heap) (locs : List Loc) (ls : Array Slot), (vp_in v1 16) → lv_has ls 3 [(0, .ref (a 10)), (1, .int v1), (2, .int (3 : Int32))] → St D (wC cI cZ a) A s σ H locs → F = s_Ex_due_49_3 v1 σ → W p l e ({ frames := 2, cells := 0, slots := 0, locals := 86 } : Room) s m args below meth c H locs 0 0 Q (F0 m 49 ls []) := by
    intro v1 H locs ls qv1_16 hl S hq
    refine lv_iinc (k := 2) (v := (4 : Int32)) hx hb d_Ex_due_49 hl rfl (by first | rfl | decide) (by decide) rfl (fun ls hl => ?_)
    refine lv_goto (tgt := 4) hx hb d_Ex_due_52 rfl ?_
    exact B_Ex_due_4_4 _ _ _ _ qv1_16 (lv_sub hl [1, 2, 0] rfl) S hq
  have B_Ex_due_47_3 : ∀ (H : Heap) (locs : List Loc) (ls : Array Slot), lv_has ls 3 [(0, .ref (a 10)), (2, .int (3 : Int32))] → St D (wC cI cZ a) A s σ H locs → F = s_Ex_due_47_3 σ → W p l e ({ frames := 2, cells := 0, slots := 0, locals := 86 } : Room) s m args below meth c H locs 0 0 Q (F0 m 47 ls []) := by
    intro H locs ls hl S hq
    refine lv_iload_n hx hb d_Ex_due_47 rfl (lv_at hl 1 rfl) ?_
    refine lv_istore_n hx hb d_Ex_due_48 rfl hl (by decide) rfl (fun ls hl => ?_)
    exact B_Ex_due_49_3 _ _ _ _ (vin_dec (by decide)) (lv_sub hl [1, 0, 2] rfl) S hq
  have B_Ex_due_4_3 : ∀ (v1 : Int32) (H : Heap) (locs : List Loc) (ls : Array Slot), (vp_in v1 16) → lv_has ls 3 [(0, .ref (a 10)), (1, .int v1), (2, .int (3 : Int32))] → St D (wC cI cZ a) A s σ H locs → F = s_Ex_due_4_3 v1 σ → W p l e ({ frames := 2, cells := 0, slots := 0, locals := 86 } : Room) s m args below meth c H locs 0 0 Q (F0 m 4 ls []) := by
    intro v1 H locs ls qv1_16 hl S hq
    refine lv_iload_n hx hb d_Ex_due_4 rfl (lv_at hl 2 rfl) ?_
    refine lv_bipush (v := 15) hx hb d_Ex_due_5 (by decide) ?_
    refine lv_icmp_gt (tgt := 55) hx hb d_Ex_due_7 rfl (fun h9 => absurd h9 (by decide)) (fun _ => ?_)
    refine lv_aload_n hx hb d_Ex_due_10 rfl (lv_at hl 0 rfl) ?_
    refine g_Ex_15 hx hb hts hown hK S.1 d_Ex_due_11 ?_
    refine lv_iload_n hx hb d_Ex_due_14 rfl (lv_at hl 2 rfl) ?_
    refine ld_C_12 (k := 3) hx hb hK S.1 (vin_dec (by decide)) (by decide) d_Ex_due_15 ?_
    refine lv_if_eq (tgt := 49) hx hb d_Ex_due_16 rfl (fun h16 => ?_) (fun h16 => ?_)
    · have hq := hq.trans (if_pos h16)
      exact B_Ex_due_49_3 _ _ _ _ qv1_16 (lv_sub hl [0, 1, 2] rfl) S hq
    · have hq := hq.trans (if_neg h16)
      refine lv_aload_n hx hb d_Ex_due_19 rfl (lv_at hl 0 rfl) ?_
      refine g_Ex_9 hx hb hts hown hK S.1 d_Ex_due_20 ?_
      refine lv_iload_n hx hb d_Ex_due_23 rfl (lv_at hl 2 rfl) ?_
      refine ld_C_11 (k := 3) hx hb hK S.1 (vin_dec (by decide)) (by decide) d_Ex_due_24 ?_
      refine lv_if_eq (tgt := 49) hx hb d_Ex_due_25 rfl (fun h25 => ?_) (fun h25 => ?_)
      · have hq := hq.trans (if_pos h25)
        exact B_Ex_due_49_3 _ _ _ _ qv1_16 (lv_sub hl [0, 1, 2] rfl) S hq
      · have hq := hq.trans (if_neg h25)
        refine lv_iload_n hx hb d_Ex_due_28 rfl (lv_at hl 1 rfl) ?_
        refine lv_if_eq (tgt := 47) hx hb d_Ex_due_29 rfl (fun h29 => ?_) (fun h29 => ?_)
        · have hq := hq.trans (if_pos h29)
          exact B_Ex_due_47_3 _ _ _ (lv_sub hl [0, 2] rfl) S hq
        · have hq := hq.trans (if_neg h29)
          refine lv_aload_n hx hb d_Ex_due_32 rfl (lv_at hl 0 rfl) ?_
          refine g_Ex_21 hx hb hts hown hK S.1 d_Ex_due_33 ?_
          refine lv_iload_n hx hb d_Ex_due_36 rfl (lv_at hl 2 rfl) ?_
          refine ld_C_14 (k := 3) hx hb hK S.1 (vin_dec (by decide)) (by decide) d_Ex_due_37 ?_
          refine lv_aload_n hx hb d_Ex_due_38 rfl (lv_at hl 0 rfl) ?_
          refine g_Ex_21 hx hb hts hown hK S.1 d_Ex_due_39 ?_
          refine lv_iload_n hx hb d_Ex_due_42 rfl (lv_at hl 1 rfl) ?_
          refine ld_C_14 (k := (v1).toNatClampNeg) hx hb hK S.1 qv1_16 rfl d_Ex_due_43 ?_
          refine lv_icmp_ge (tgt := 49) hx hb d_Ex_due_44 rfl (fun h44 => ?_) (fun h44 => ?_)
          · have hq := hq.trans (if_pos h44)
            exact B_Ex_due_49_3 _ _ _ _ qv1_16 (lv_sub hl [0, 1, 2] rfl) S hq
          · have hq := hq.trans (if_neg h44)
            exact B_Ex_due_47_3 _ _ _ (lv_sub hl [0, 2] rfl) S hq
  have B_Ex_due_49_2 : ∀ (v1 : Int32) (H : Heap) (locs : List Loc) (ls : Array Slot), (vp_in v1 16) → lv_has ls 3 [(0, .ref (a 10)), (1, .int v1), (2, .int (2 : Int32))] → St D (wC cI cZ a) A s σ H locs → F = s_Ex_due_49_2 v1 σ → W p l e ({ frames := 2, cells := 0, slots := 0, locals := 86 } : Room) s m args below meth c H locs 0 0 Q (F0 m 49 ls []) := by
    intro v1 H locs ls qv1_16 hl S hq
    refine lv_iinc (k := 2) (v := (3 : Int32)) hx hb d_Ex_due_49 hl rfl (by first | rfl | decide) (by decide) rfl (fun ls hl => ?_)
    refine lv_goto (tgt := 4) hx hb d_Ex_due_52 rfl ?_
    exact B_Ex_due_4_3 _ _ _ _ qv1_16 (lv_sub hl [1, 2, 0] rfl) S hq
  have B_Ex_due_47_2 : ∀ (H : Heap) (locs : List Loc) (ls : Array Slot), lv_has ls 3 [(0, .ref (a 10)), (2, .int (2 : Int32))] → St D (wC cI cZ a) A s σ H locs → F = s_Ex_due_47_2 σ → W p l e ({ frames := 2, cells := 0, slots := 0, locals := 86 } : Room) s m args below meth c H locs 0 0 Q (F0 m 47 ls []) := by
    intro H locs ls hl S hq
    refine lv_iload_n hx hb d_Ex_due_47 rfl (lv_at hl 1 rfl) ?_
    refine lv_istore_n hx hb d_Ex_due_48 rfl hl (by decide) rfl (fun ls hl => ?_)
    exact B_Ex_due_49_2 _ _ _ _ (vin_dec (by decide)) (lv_sub hl [1, 0, 2] rfl) S hq
  have B_Ex_due_4_2 : ∀ (H : Heap) (locs : List Loc) (ls : Array Slot), lv_has ls 3 [(0, .ref (a 10)), (1, .int (0 : Int32)), (2, .int (2 : Int32))] → St D (wC cI cZ a) A s σ H locs → F = s_Ex_due_4_2 σ → W p l e ({ frames := 2, cells := 0, slots := 0, locals := 86 } : Room) s m args below meth c H locs 0 0 Q (F0 m 4 ls []) := by
    intro H locs ls hl S hq
    refine lv_iload_n hx hb d_Ex_due_4 rfl (lv_at hl 2 rfl) ?_
    refine lv_bipush (v := 15) hx hb d_Ex_due_5 (by decide) ?_
    refine lv_icmp_gt (tgt := 55) hx hb d_Ex_due_7 rfl (fun h9 => absurd h9 (by decide)) (fun _ => ?_)
    refine lv_aload_n hx hb d_Ex_due_10 rfl (lv_at hl 0 rfl) ?_
    refine g_Ex_15 hx hb hts hown hK S.1 d_Ex_due_11 ?_
    refine lv_iload_n hx hb d_Ex_due_14 rfl (lv_at hl 2 rfl) ?_
    refine ld_C_12 (k := 2) hx hb hK S.1 (vin_dec (by decide)) (by decide) d_Ex_due_15 ?_
    refine lv_if_eq (tgt := 49) hx hb d_Ex_due_16 rfl (fun h16 => ?_) (fun h16 => ?_)
    · have hq := hq.trans (if_pos h16)
      exact B_Ex_due_49_2 _ _ _ _ (vin_dec (by decide)) (lv_sub hl [0, 1, 2] rfl) S hq
    · have hq := hq.trans (if_neg h16)
      refine lv_aload_n hx hb d_Ex_due_19 rfl (lv_at hl 0 rfl) ?_
      refine g_Ex_9 hx hb hts hown hK S.1 d_Ex_due_20 ?_
      refine lv_iload_n hx hb d_Ex_due_23 rfl (lv_at hl 2 rfl) ?_
      refine ld_C_11 (k := 2) hx hb hK S.1 (vin_dec (by decide)) (by decide) d_Ex_due_24 ?_
      refine lv_if_eq (tgt := 49) hx hb d_Ex_due_25 rfl (fun h25 => ?_) (fun h25 => ?_)
      · have hq := hq.trans (if_pos h25)
        exact B_Ex_due_49_2 _ _ _ _ (vin_dec (by decide)) (lv_sub hl [0, 1, 2] rfl) S hq
      · have hq := hq.trans (if_neg h25)
        refine lv_iload_n hx hb d_Ex_due_28 rfl (lv_at hl 1 rfl) ?_
        refine lv_if_eq (tgt := 47) hx hb d_Ex_due_29 rfl (fun _ => ?_) (fun h9 => absurd (by decide) h9)
        exact B_Ex_due_47_2 _ _ _ (lv_sub hl [0, 2] rfl) S hq
  refine lv_iconst (v := 0) hx hb d_Ex_due_0 (by decide) ?_
  refine lv_istore_n hx hb d_Ex_due_1 rfl hl (by decide) rfl (fun ls hl => ?_)
  refine lv_iconst (v := 2) hx hb d_Ex_due_2 (by decide) ?_
  refine lv_istore_n hx hb d_Ex_due_3 rfl hl (by decide) rfl (fun ls hl => ?_)
  exact B_Ex_due_4_2 _ _ _ (lv_sub hl [2, 1, 0] rfl) S hq
set_option maxHeartbeats 4000000 in
set_option maxRecDepth 100000 in
theorem c_Me_holdsFrame (v1 : Int32) (σ : nS) : CtZ l D cI cZ (wC cI cZ a) (exC t) y_Me_holdsFrame b_Me_holdsFrame 2 { frames := 0, cells := 0, slots := 0, locals := 0 } [.ref (a 3), .int v1] σ (s_Me_holdsFrame v1, σ) := by
  generalize hF : s_Me_holdsFrame v1 = F
  refine metZp (exC_ok t) (by decide) (Nat.le_of_ble_eq_true rfl) (fun p e s m args below meth c A Q ls X S hl ret => ?_)
  have hq := hF.symm
  obtain ⟨hx, hb, hml, hown, hts, hK, hA, hE, hlk, hEo⟩ := id X
  have hl : lv_has ls 2 [(0, .ref (a 3)), (1, .int v1)] := hl
  have B_Me_holdsFrame_21 : ∀ (H : Heap) (locs : List Loc) (ls : Array Slot), lv_has ls 2 [] → St D (wC cI cZ a) A s σ H locs → F = s_Me_holdsFrame_21 → W p l e ({ frames := 0, cells := 0, slots := 0, locals := 0 } : Room) s m args below meth c H locs 0 0 Q (F0 m 21 ls []) := by
    intro H locs ls hl S hq
    refine lv_iconst (v := 0) hx hb d_Me_holdsFrame_21 (by decide) ?_
    exact ret _ _ _ _ false S hq d_Me_holdsFrame_22
  refine lv_iload_n hx hb d_Me_holdsFrame_0 rfl (lv_at hl 1 rfl) ?_
  refine lv_if_lt (tgt := 21) hx hb d_Me_holdsFrame_1 rfl (fun h1 => ?_) (fun h1 => ?_)
  · have hq := hq.trans (if_pos h1)
    exact B_Me_holdsFrame_21 _ _ _ (lv_sub hl [] rfl) S hq
  · have hq := hq.trans (if_neg h1)
    refine lv_iload_n hx hb d_Me_holdsFrame_4 rfl (lv_at hl 1 rfl) ?_
    refine lv_sipush (v := 992) hx hb d_Me_holdsFrame_5 (by decide) ?_
    refine lv_icmp_gt (tgt := 21) hx hb d_Me_holdsFrame_8 rfl (fun h8 => ?_) (fun h8 => ?_)
    · have hq := hq.trans (if_pos h8)
      exact B_Me_holdsFrame_21 _ _ _ (lv_sub hl [] rfl) S hq
    · have hq := hq.trans (if_neg h8)
      refine lv_iload_n hx hb d_Me_holdsFrame_11 rfl (lv_at hl 1 rfl) ?_
      refine lv_iconst (v := 3) hx hb d_Me_holdsFrame_12 (by decide) ?_
      refine lv_iand hx hb d_Me_holdsFrame_13 ?_
      refine lv_if_ne (tgt := 21) hx hb d_Me_holdsFrame_14 rfl (fun h14 => ?_) (fun h14 => ?_)
      · have hq := hq.trans (if_neg h14)
        exact B_Me_holdsFrame_21 _ _ _ (lv_sub hl [] rfl) S hq
      · have hq := hq.trans (if_pos h14)
        refine lv_iconst (v := 1) hx hb d_Me_holdsFrame_17 (by decide) ?_
        refine lv_goto (tgt := 22) hx hb d_Me_holdsFrame_18 rfl ?_
        exact ret _ _ _ _ true S hq d_Me_holdsFrame_22
set_option maxHeartbeats 4000000 in
set_option maxRecDepth 100000 in
theorem c_Fl_packed (σ : nS) : CtI l D cI cZ (wC cI cZ a) (exC t) y_Fl_packed b_Fl_packed 1 { frames := 0, cells := 0, slots := 0, locals := 0 } [.ref (a 15)] σ (s_Fl_packed σ, σ) := by
  generalize hF : s_Fl_packed σ = F
  refine metIp (exC_ok t) (by decide) (Nat.le_of_ble_eq_true rfl) (fun p e s m args below meth c A Q ls X S hl ret => ?_)
  have hq := hF.symm
  obtain ⟨hx, hb, hml, hown, hts, hK, hA, hE, hlk, hEo⟩ := id X
  have hl : lv_has ls 1 [(0, .ref (a 15))] := hl
  have B_Fl_packed_51 : ∀ (k0 : Int32) (k1 : Bool) (H : Heap) (locs : List Loc) (ls : Array Slot), lv_has ls 1 [] → St D (wC cI cZ a) A s σ H locs → F = s_Fl_packed_51 k0 k1 σ → W p l e ({ frames := 0, cells := 0, slots := 0, locals := 0 } : Room) s m args below meth c H locs 0 0 Q (F0 m 51 ls [.int (bI k1), .int k0]) := by
    intro k0 k1 H locs ls hl S hq
    refine lv_iadd hx hb d_Fl_packed_51 ?_
    exact ret _ _ _ _ _ S hq d_Fl_packed_52
  have B_Fl_packed_38 : ∀ (k0 : Int32) (k1 : Int32) (H : Heap) (locs : List Loc) (ls : Array Slot), lv_has ls 1 [(0, .ref (a 15))] → St D (wC cI cZ a) A s σ H locs → F = s_Fl_packed_38 k0 k1 σ → W p l e ({ frames := 0, cells := 0, slots := 0, locals := 0 } : Room) s m args below meth c H locs 0 0 Q (F0 m 38 ls [.int k1, .int k0]) := by
    intro k0 k1 H locs ls hl S hq
    refine lv_iadd hx hb d_Fl_packed_38 ?_
    refine lv_aload_n hx hb d_Fl_packed_39 rfl (lv_at hl 0 rfl) ?_
    refine g_Fl_21 hx hb hts hown hK S.1 d_Fl_packed_40 ?_
    refine lv_if_eq (tgt := 50) hx hb d_Fl_packed_43 rfl (fun h43 => ?_) (fun h43 => ?_)
    · have hq := hq.trans (if_pos h43)
      refine lv_iconst (v := 0) hx hb d_Fl_packed_50 (by decide) ?_
      exact B_Fl_packed_51 _ false _ _ _ (lv_sub hl [] rfl) S hq
    · have hq := hq.trans (if_neg h43)
      refine lv_iconst (v := 1) hx hb d_Fl_packed_46 (by decide) ?_
      refine lv_goto (tgt := 51) hx hb d_Fl_packed_47 rfl ?_
      exact B_Fl_packed_51 _ true _ _ _ (lv_sub hl [] rfl) S hq
  have B_Fl_packed_25 : ∀ (k0 : Int32) (k1 : Int32) (H : Heap) (locs : List Loc) (ls : Array Slot), lv_has ls 1 [(0, .ref (a 15))] → St D (wC cI cZ a) A s σ H locs → F = s_Fl_packed_25 k0 k1 σ → W p l e ({ frames := 0, cells := 0, slots := 0, locals := 0 } : Room) s m args below meth c H locs 0 0 Q (F0 m 25 ls [.int k1, .int k0]) := by
    intro k0 k1 H locs ls hl S hq
    refine lv_iadd hx hb d_Fl_packed_25 ?_
    refine lv_aload_n hx hb d_Fl_packed_26 rfl (lv_at hl 0 rfl) ?_
    refine g_Fl_16 hx hb hts hown hK S.1 d_Fl_packed_27 ?_
    refine lv_if_eq (tgt := 37) hx hb d_Fl_packed_30 rfl (fun h30 => ?_) (fun h30 => ?_)
    · have hq := hq.trans (if_pos h30)
      refine lv_iconst (v := 0) hx hb d_Fl_packed_37 (by decide) ?_
      exact B_Fl_packed_38 _ _ _ _ _ (lv_sub hl [0] rfl) S hq
    · have hq := hq.trans (if_neg h30)
      refine lv_iconst (v := 2) hx hb d_Fl_packed_33 (by decide) ?_
      refine lv_goto (tgt := 38) hx hb d_Fl_packed_34 rfl ?_
      exact B_Fl_packed_38 _ _ _ _ _ (lv_sub hl [0] rfl) S hq
  have B_Fl_packed_13 : ∀ (k0 : Int32) (H : Heap) (locs : List Loc) (ls : Array Slot), lv_has ls 1 [(0, .ref (a 15))] → St D (wC cI cZ a) A s σ H locs → F = s_Fl_packed_13 k0 σ → W p l e ({ frames := 0, cells := 0, slots := 0, locals := 0 } : Room) s m args below meth c H locs 0 0 Q (F0 m 13 ls [.int k0]) := by
    intro k0 H locs ls hl S hq
    refine lv_aload_n hx hb d_Fl_packed_13 rfl (lv_at hl 0 rfl) ?_
    refine g_Fl_13 hx hb hts hown hK S.1 d_Fl_packed_14 ?_
    refine lv_if_eq (tgt := 24) hx hb d_Fl_packed_17 rfl (fun h17 => ?_) (fun h17 => ?_)
    · have hq := hq.trans (if_pos h17)
      refine lv_iconst (v := 0) hx hb d_Fl_packed_24 (by decide) ?_
      exact B_Fl_packed_25 _ _ _ _ _ (lv_sub hl [0] rfl) S hq
    · have hq := hq.trans (if_neg h17)
      refine lv_iconst (v := 4) hx hb d_Fl_packed_20 (by decide) ?_
      refine lv_goto (tgt := 25) hx hb d_Fl_packed_21 rfl ?_
      exact B_Fl_packed_25 _ _ _ _ _ (lv_sub hl [0] rfl) S hq
  refine lv_aload_n hx hb d_Fl_packed_0 rfl (lv_at hl 0 rfl) ?_
  refine g_Fl_7 hx hb hts hown hK S.1 d_Fl_packed_1 ?_
  refine lv_if_eq (tgt := 12) hx hb d_Fl_packed_4 rfl (fun h4 => ?_) (fun h4 => ?_)
  · have hq := hq.trans (if_pos h4)
    refine lv_iconst (v := 0) hx hb d_Fl_packed_12 (by decide) ?_
    exact B_Fl_packed_13 _ _ _ _ (lv_sub hl [0] rfl) S hq
  · have hq := hq.trans (if_neg h4)
    refine lv_bipush (v := 8) hx hb d_Fl_packed_7 (by decide) ?_
    refine lv_goto (tgt := 13) hx hb d_Fl_packed_9 rfl ?_
    exact B_Fl_packed_13 _ _ _ _ (lv_sub hl [0] rfl) S hq
set_option maxHeartbeats 4000000 in
set_option maxRecDepth 100000 in
theorem c_N_enter (v1 : Int32) (σ : nS) (qv1_16 : vp_in v1 16) : CtV l D cI cZ (wC cI cZ a) (exC t) y_N_enter b_N_enter 2 { frames := 1, cells := 0, slots := 0, locals := 21 } [.ref (a 0), .int v1] σ (s_N_enter v1 σ) := by
  generalize hF : s_N_enter v1 σ = F
  refine metV (exC_ok t) (by decide) (Nat.le_of_ble_eq_true rfl) (fun p e s m args below meth c A Q ls X S hl ret => ?_)
  have hq := hF.symm
  obtain ⟨hx, hb, hml, hown, hts, hK, hA, hE, hlk, hEo⟩ := id X
  have hl : lv_has ls 2 [(0, .ref (a 0)), (1, .int v1)] := hl
  refine lv_aload_n hx hb d_N_enter_0 rfl (lv_at hl 0 rfl) ?_
  refine g_N_33 hx hb hts hown hK S.1 d_N_enter_1 ?_
  refine g_N_190 hx hb hts hown hK S.1 d_N_enter_4 ?_
  refine lv_iload_n hx hb d_N_enter_7 rfl (lv_at hl 1 rfl) ?_
  refine lv_iconst (v := 1) hx hb d_N_enter_8 (by decide) ?_
  refine st_C_13 (k := (v1).toNatClampNeg) (b := true) hx hb hK S qv1_16 rfl d_N_enter_9 (fun H locs S => ?_)
  refine lv_aload_n hx hb d_N_enter_10 rfl (lv_at hl 0 rfl) ?_
  refine g_N_33 hx hb hts hown hK S.1 d_N_enter_11 ?_
  refine g_N_104 hx hb hts hown hK S.1 d_N_enter_14 ?_
  refine lv_iload_n hx hb d_N_enter_17 rfl (lv_at hl 1 rfl) ?_
  refine lv_iconst (v := 0) hx hb d_N_enter_18 (by decide) ?_
  refine st_C_12 (k := (v1).toNatClampNeg) (b := false) hx hb hK S qv1_16 rfl d_N_enter_19 (fun H locs S => ?_)
  refine lv_aload_n hx hb d_N_enter_20 rfl (lv_at hl 0 rfl) ?_
  refine lv_iload_n hx hb d_N_enter_21 rfl (lv_at hl 1 rfl) ?_
  refine p_N_128 hx hb hts hown hK S d_N_enter_22 (fun H locs S => ?_)
  refine lv_aload_n hx hb d_N_enter_25 rfl (lv_at hl 0 rfl) ?_
  refine g_N_9 hx hb hts hown hK S.1 d_N_enter_26 ?_
  refine lv_bipush (v := 15) hx hb d_N_enter_29 (by decide) ?_
  refine lv_aload_n hx hb d_N_enter_31 rfl (lv_at hl 0 rfl) ?_
  refine g_N_19 hx hb hts hown hK S.1 d_N_enter_32 ?_
  refine lv_iconst (v := 4) hx hb d_N_enter_35 (by decide) ?_
  refine lv_iload_n hx hb d_N_enter_36 rfl (lv_at hl 1 rfl) ?_
  refine lv_imul hx hb d_N_enter_37 ?_
  refine callVIp X S hl (c_Me_load ((4 : Int32) * v1) _) v_N_66 3 1 ⟨rfl, rfl⟩ (rk_dec (by decide)) rfl rfl (Nat.le_of_ble_eq_true rfl) d_N_enter_38 (fun H locs S => ?_)
  refine callSIp X S hl (c_N_even (s_Me_load ((4 : Int32) * v1) (up2 (up2 (up2 σ 3 (v1).toNatClampNeg (bI true)) 2 (v1).toNatClampNeg (bI false)) 8 10 v1)) _) v_N_72 (rk_dec (by decide)) rfl rfl (Nat.le_of_ble_eq_true rfl) d_N_enter_41 (fun H locs S => ?_)
  refine st_C_1 (k := 15) hx hb hK S (vin_dec (by decide)) (by decide) d_N_enter_44 (fun H locs S => ?_)
  exact ret _ _ _ _ _ S hq d_N_enter_45
set_option maxHeartbeats 4000000 in
set_option maxRecDepth 100000 in
theorem c_N_take (v1 : Int32) (σ : nS) (qv1_16 : vp_in v1 16) : CtV l D cI cZ (wC cI cZ a) (exC t) y_N_take b_N_take 5 { frames := 2, cells := 0, slots := 0, locals := 42 } [.ref (a 0), .int v1] σ (s_N_take v1 σ) := by
  generalize hF : s_N_take v1 σ = F
  refine metV (exC_ok t) (by decide) (Nat.le_of_ble_eq_true rfl) (fun p e s m args below meth c A Q ls X S hl ret => ?_)
  have hq := hF.symm
  obtain ⟨hx, hb, hml, hown, hts, hK, hA, hE, hlk, hEo⟩ := id X
  have hl : lv_has ls 5 [(0, .ref (a 0)), (1, .int v1)] := hl
  have B_N_take_165 : ∀ (v1 : Int32) (k2 : Int32) (σ : nS) (H : Heap) (locs : List Loc) (ls : Array Slot), (vp_in v1 16) → lv_has ls 5 [(0, .ref (a 0)), (1, .int v1)] → St D (wC cI cZ a) A s σ H locs → F = s_N_take_165 v1 k2 σ → W p l e ({ frames := 2, cells := 0, slots := 0, locals := 42 } : Room) s m args below meth c H locs 0 0 Q (F0 m 165 ls [.int k2, .int (14 : Int32), .ref (a 1)]) := by
    intro v1 k2 σ H locs ls qv1_16 hl S hq
    refine st_C_1 (k := 14) hx hb hK S (vin_dec (by decide)) (by decide) d_N_take_165 (fun H locs S => ?_)
    refine lv_aload_n hx hb d_N_take_166 rfl (lv_at hl 0 rfl) ?_
    refine lv_dup hx hb d_N_take_167 rfl ?_
    refine g_N_137 hx hb hts hown hK S.1 d_N_take_168 ?_
    refine lv_iconst (v := 1) hx hb d_N_take_171 (by decide) ?_
    refine lv_iadd hx hb d_N_take_172 ?_
    refine p_N_137 hx hb hts hown hK S d_N_take_173 (fun H locs S => ?_)
    refine lv_aload_n hx hb d_N_take_176 rfl (lv_at hl 0 rfl) ?_
    refine lv_iload_n hx hb d_N_take_177 rfl (lv_at hl 1 rfl) ?_
    refine callVV X S hl (c_N_enter v1 _ qv1_16) v_N_187 0 0 ⟨rfl, rfl⟩ (rk_dec (by decide)) rfl rfl (Nat.le_of_ble_eq_true rfl) d_N_take_178 (fun σ1 H locs e1 S => ?_)
    have hq := hq.trans (ap1_eq e1)
    exact ret _ _ _ _ _ S hq d_N_take_181
  have B_N_take_128 : ∀ (v1 : Int32) (v3 : Int32) (k1 : Int32) (k2 : Int32) (k3 : Int32) (σ : nS) (H : Heap) (locs : List Loc) (ls : Array Slot), (vp_in v1 16) → lv_has ls 5 [(0, .ref (a 0)), (1, .int v1), (3, .int v3)] → St D (wC cI cZ a) A s σ H locs → F = s_N_take_128 v1 v3 k1 k2 k3 σ → W p l e ({ frames := 2, cells := 0, slots := 0, locals := 42 } : Room) s m args below meth c H locs 0 0 Q (F0 m 128 ls [.int k3, .int k2, .int k1, .ref (a 3)]) := by
    intro v1 v3 k1 k2 k3 σ H locs ls qv1_16 hl S hq
    refine lv_ior hx hb d_N_take_128 ?_
    refine lv_aload_n hx hb d_N_take_129 rfl (lv_at hl 0 rfl) ?_
    refine g_N_128 hx hb hts hown hK S.1 d_N_take_130 ?_
    refine lv_ior hx hb d_N_take_133 ?_
    refine callVV X S hl (c_Me_store k1 ((k2 ||| k3) ||| (σ 8 10)) _) v_N_62 3 1 ⟨rfl, rfl⟩ (rk_dec (by decide)) rfl rfl (Nat.le_of_ble_eq_true rfl) d_N_take_134 (fun σ1 H locs e1 S => ?_)
    have hq := hq.trans (ap1_eq e1)
    refine lv_aload_n hx hb d_N_take_137 rfl (lv_at hl 0 rfl) ?_
    refine g_N_9 hx hb hts hown hK S.1 d_N_take_138 ?_
    refine lv_bipush (v := 13) hx hb d_N_take_141 (by decide) ?_
    refine lv_iload_n hx hb d_N_take_143 rfl (lv_at hl 2 rfl) ?_
    refine st_C_1 (k := 13) hx hb hK S (vin_dec (by decide)) (by decide) d_N_take_144 (fun H locs S => ?_)
    refine lv_aload_n hx hb d_N_take_145 rfl (lv_at hl 0 rfl) ?_
    refine g_N_9 hx hb hts hown hK S.1 d_N_take_146 ?_
    refine lv_bipush (v := 14) hx hb d_N_take_149 (by decide) ?_
    refine lv_aload_n hx hb d_N_take_151 rfl (lv_at hl 0 rfl) ?_
    refine g_N_128 hx hb hts hown hK S.1 d_N_take_152 ?_
    refine lv_if_ne (tgt := 163) hx hb d_N_take_155 rfl (fun h155 => ?_) (fun h155 => ?_)
    · have hq := hq.trans (if_neg h155)
      refine lv_bipush (v := -15) hx hb d_N_take_163 (by decide) ?_
      exact B_N_take_165 _ _ _ _ _ _ qv1_16 (lv_sub hl [0, 1] rfl) S hq
    · have hq := hq.trans (if_pos h155)
      refine lv_bipush (v := -7) hx hb d_N_take_158 (by decide) ?_
      refine lv_goto (tgt := 165) hx hb d_N_take_160 rfl ?_
      exact B_N_take_165 _ _ _ _ _ _ qv1_16 (lv_sub hl [0, 1] rfl) S hq
  have B_N_take_60_7 : ∀ (v1 : Int32) (v2 : Bool) (v3 : Int32) (σ : nS) (H : Heap) (locs : List Loc) (ls : Array Slot), (vp_in v1 16) → lv_has ls 5 [(0, .ref (a 0)), (1, .int v1), (2, .int (bI v2)), (3, .int v3), (4, .int (7 : Int32))] → St D (wC cI cZ a) A s σ H locs → F = s_N_take_60_7 v1 v2 v3 σ → W p l e ({ frames := 2, cells := 0, slots := 0, locals := 42 } : Room) s m args below meth c H locs 0 0 Q (F0 m 60 ls []) := by
    intro v1 v2 v3 σ H locs ls qv1_16 hl S hq
    refine lv_iload hx hb d_N_take_60 (lv_at hl 4 rfl) ?_
    refine va_gets hx hb hE.1 S.2.2 hown (hts _ k_4) (fun _ h9 => h9) d_N_take_62 ?_
    refine va_tlen hx hb hE.2 S.2.2 (v := 7) rfl d_N_take_65 ?_
    refine lv_icmp_ge (tgt := 99) hx hb d_N_take_66 rfl (fun _ => ?_) (fun h9 => absurd (by decide) h9)
    refine lv_aload_n hx hb d_N_take_99 rfl (lv_at hl 0 rfl) ?_
    refine g_N_19 hx hb hts hown hK S.1 d_N_take_100 ?_
    refine lv_iload_n hx hb d_N_take_103 rfl (lv_at hl 3 rfl) ?_
    refine lv_bipush (v := 28) hx hb d_N_take_104 (by decide) ?_
    refine lv_iadd hx hb d_N_take_106 ?_
    refine lv_aload_n hx hb d_N_take_107 rfl (lv_at hl 0 rfl) ?_
    refine g_N_40 hx hb hts hown hK S.1 d_N_take_108 ?_
    refine callVIp X S hl (c_Fl_packed _) v_N_124 15 4 ⟨rfl, rfl⟩ (rk_dec (by decide)) rfl rfl (Nat.le_of_ble_eq_true rfl) d_N_take_111 (fun H locs S => ?_)
    refine lv_bipush (v := 28) hx hb d_N_take_114 (by decide) ?_
    refine lv_ishl hx hb d_N_take_116 ?_
    refine lv_iload_n hx hb d_N_take_117 rfl (lv_at hl 2 rfl) ?_
    refine r_ifeqZ (tgt := 127) hx hb d_N_take_118 rfl (fun h118 => ?_) (fun h118 => ?_)
    · have hq := hq.trans (if_neg h118)
      refine lv_iconst (v := 0) hx hb d_N_take_127 (by decide) ?_
      exact B_N_take_128 _ _ _ _ _ _ _ _ _ qv1_16 (lv_sub hl [0, 1, 3] rfl) S hq
    · have hq := hq.trans (if_pos h118)
      refine lv_sipush (v := 512) hx hb d_N_take_121 (by decide) ?_
      refine lv_goto (tgt := 128) hx hb d_N_take_124 rfl ?_
      exact B_N_take_128 _ _ _ _ _ _ _ _ _ qv1_16 (lv_sub hl [0, 1, 3] rfl) S hq
  have B_N_take_60_6 : ∀ (v1 : Int32) (v2 : Bool) (v3 : Int32) (σ : nS) (H : Heap) (locs : List Loc) (ls : Array Slot), (vp_in v1 16) → lv_has ls 5 [(0, .ref (a 0)), (1, .int v1), (2, .int (bI v2)), (3, .int v3), (4, .int (6 : Int32))] → St D (wC cI cZ a) A s σ H locs → F = s_N_take_60_6 v1 v2 v3 σ → W p l e ({ frames := 2, cells := 0, slots := 0, locals := 42 } : Room) s m args below meth c H locs 0 0 Q (F0 m 60 ls []) := by
    intro v1 v2 v3 σ H locs ls qv1_16 hl S hq
    refine lv_iload hx hb d_N_take_60 (lv_at hl 4 rfl) ?_
    refine va_gets hx hb hE.1 S.2.2 hown (hts _ k_4) (fun _ h9 => h9) d_N_take_62 ?_
    refine va_tlen hx hb hE.2 S.2.2 (v := 7) rfl d_N_take_65 ?_
    refine lv_icmp_ge (tgt := 99) hx hb d_N_take_66 rfl (fun h9 => absurd h9 (by decide)) (fun _ => ?_)
    refine lv_aload_n hx hb d_N_take_69 rfl (lv_at hl 0 rfl) ?_
    refine g_N_19 hx hb hts hown hK S.1 d_N_take_70 ?_
    refine lv_iload_n hx hb d_N_take_73 rfl (lv_at hl 3 rfl) ?_
    refine lv_iconst (v := 4) hx hb d_N_take_74 (by decide) ?_
    refine lv_iload hx hb d_N_take_75 (lv_at hl 4 rfl) ?_
    refine lv_imul hx hb d_N_take_77 ?_
    refine r_ci (v := 24) (by decide) ?_
    refine lv_iadd hx hb d_N_take_78 ?_
    refine lv_aload_n hx hb d_N_take_79 rfl (lv_at hl 0 rfl) ?_
    refine g_N_9 hx hb hts hown hK S.1 d_N_take_80 ?_
    refine va_gets hx hb hE.1 S.2.2 hown (hts _ k_4) (fun _ h9 => h9) d_N_take_83 ?_
    refine lv_iload hx hb d_N_take_86 (lv_at hl 4 rfl) ?_
    refine va_ti hx hb hE.2 S.2.2 (v := .int 15) (vin_dec (by decide)) rfl d_N_take_88 ?_
    refine ld_C_1 (k := 15) hx hb hK S.1 (vin_dec (by decide)) (by decide) d_N_take_89 ?_
    refine callVV X S hl (c_Me_store (v3 + (24 : Int32)) (σ 0 15) _) v_N_62 3 1 ⟨rfl, rfl⟩ (rk_dec (by decide)) rfl rfl (Nat.le_of_ble_eq_true rfl) d_N_take_90 (fun σ1 H locs e1 S => ?_)
    have hq := hq.trans (ap1_eq e1)
    refine lv_iinc (k := 4) (v := (7 : Int32)) hx hb d_N_take_93 hl rfl (by first | rfl | decide) (by decide) rfl (fun ls hl => ?_)
    refine lv_goto (tgt := 60) hx hb d_N_take_96 rfl ?_
    exact B_N_take_60_7 _ _ _ _ _ _ _ qv1_16 (lv_sub hl [1, 2, 3, 4, 0] rfl) S hq
  have B_N_take_60_5 : ∀ (v1 : Int32) (v2 : Bool) (v3 : Int32) (σ : nS) (H : Heap) (locs : List Loc) (ls : Array Slot), (vp_in v1 16) → lv_has ls 5 [(0, .ref (a 0)), (1, .int v1), (2, .int (bI v2)), (3, .int v3), (4, .int (5 : Int32))] → St D (wC cI cZ a) A s σ H locs → F = s_N_take_60_5 v1 v2 v3 σ → W p l e ({ frames := 2, cells := 0, slots := 0, locals := 42 } : Room) s m args below meth c H locs 0 0 Q (F0 m 60 ls []) := by
    intro v1 v2 v3 σ H locs ls qv1_16 hl S hq
    refine lv_iload hx hb d_N_take_60 (lv_at hl 4 rfl) ?_
    refine va_gets hx hb hE.1 S.2.2 hown (hts _ k_4) (fun _ h9 => h9) d_N_take_62 ?_
    refine va_tlen hx hb hE.2 S.2.2 (v := 7) rfl d_N_take_65 ?_
    refine lv_icmp_ge (tgt := 99) hx hb d_N_take_66 rfl (fun h9 => absurd h9 (by decide)) (fun _ => ?_)
    refine lv_aload_n hx hb d_N_take_69 rfl (lv_at hl 0 rfl) ?_
    refine g_N_19 hx hb hts hown hK S.1 d_N_take_70 ?_
    refine lv_iload_n hx hb d_N_take_73 rfl (lv_at hl 3 rfl) ?_
    refine lv_iconst (v := 4) hx hb d_N_take_74 (by decide) ?_
    refine lv_iload hx hb d_N_take_75 (lv_at hl 4 rfl) ?_
    refine lv_imul hx hb d_N_take_77 ?_
    refine r_ci (v := 20) (by decide) ?_
    refine lv_iadd hx hb d_N_take_78 ?_
    refine lv_aload_n hx hb d_N_take_79 rfl (lv_at hl 0 rfl) ?_
    refine g_N_9 hx hb hts hown hK S.1 d_N_take_80 ?_
    refine va_gets hx hb hE.1 S.2.2 hown (hts _ k_4) (fun _ h9 => h9) d_N_take_83 ?_
    refine lv_iload hx hb d_N_take_86 (lv_at hl 4 rfl) ?_
    refine va_ti hx hb hE.2 S.2.2 (v := .int 14) (vin_dec (by decide)) rfl d_N_take_88 ?_
    refine ld_C_1 (k := 14) hx hb hK S.1 (vin_dec (by decide)) (by decide) d_N_take_89 ?_
    refine callVV X S hl (c_Me_store (v3 + (20 : Int32)) (σ 0 14) _) v_N_62 3 1 ⟨rfl, rfl⟩ (rk_dec (by decide)) rfl rfl (Nat.le_of_ble_eq_true rfl) d_N_take_90 (fun σ1 H locs e1 S => ?_)
    have hq := hq.trans (ap1_eq e1)
    refine lv_iinc (k := 4) (v := (6 : Int32)) hx hb d_N_take_93 hl rfl (by first | rfl | decide) (by decide) rfl (fun ls hl => ?_)
    refine lv_goto (tgt := 60) hx hb d_N_take_96 rfl ?_
    exact B_N_take_60_6 _ _ _ _ _ _ _ qv1_16 (lv_sub hl [1, 2, 3, 4, 0] rfl) S hq
  have B_N_take_60_4 : ∀ (v1 : Int32) (v2 : Bool) (v3 : Int32) (σ : nS) (H : Heap) (locs : List Loc) (ls : Array Slot), (vp_in v1 16) → lv_has ls 5 [(0, .ref (a 0)), (1, .int v1), (2, .int (bI v2)), (3, .int v3), (4, .int (4 : Int32))] → St D (wC cI cZ a) A s σ H locs → F = s_N_take_60_4 v1 v2 v3 σ → W p l e ({ frames := 2, cells := 0, slots := 0, locals := 42 } : Room) s m args below meth c H locs 0 0 Q (F0 m 60 ls []) := by
    intro v1 v2 v3 σ H locs ls qv1_16 hl S hq
    refine lv_iload hx hb d_N_take_60 (lv_at hl 4 rfl) ?_
    refine va_gets hx hb hE.1 S.2.2 hown (hts _ k_4) (fun _ h9 => h9) d_N_take_62 ?_
    refine va_tlen hx hb hE.2 S.2.2 (v := 7) rfl d_N_take_65 ?_
    refine lv_icmp_ge (tgt := 99) hx hb d_N_take_66 rfl (fun h9 => absurd h9 (by decide)) (fun _ => ?_)
    refine lv_aload_n hx hb d_N_take_69 rfl (lv_at hl 0 rfl) ?_
    refine g_N_19 hx hb hts hown hK S.1 d_N_take_70 ?_
    refine lv_iload_n hx hb d_N_take_73 rfl (lv_at hl 3 rfl) ?_
    refine lv_iconst (v := 4) hx hb d_N_take_74 (by decide) ?_
    refine lv_iload hx hb d_N_take_75 (lv_at hl 4 rfl) ?_
    refine lv_imul hx hb d_N_take_77 ?_
    refine r_ci (v := 16) (by decide) ?_
    refine lv_iadd hx hb d_N_take_78 ?_
    refine lv_aload_n hx hb d_N_take_79 rfl (lv_at hl 0 rfl) ?_
    refine g_N_9 hx hb hts hown hK S.1 d_N_take_80 ?_
    refine va_gets hx hb hE.1 S.2.2 hown (hts _ k_4) (fun _ h9 => h9) d_N_take_83 ?_
    refine lv_iload hx hb d_N_take_86 (lv_at hl 4 rfl) ?_
    refine va_ti hx hb hE.2 S.2.2 (v := .int 12) (vin_dec (by decide)) rfl d_N_take_88 ?_
    refine ld_C_1 (k := 12) hx hb hK S.1 (vin_dec (by decide)) (by decide) d_N_take_89 ?_
    refine callVV X S hl (c_Me_store (v3 + (16 : Int32)) (σ 0 12) _) v_N_62 3 1 ⟨rfl, rfl⟩ (rk_dec (by decide)) rfl rfl (Nat.le_of_ble_eq_true rfl) d_N_take_90 (fun σ1 H locs e1 S => ?_)
    have hq := hq.trans (ap1_eq e1)
    refine lv_iinc (k := 4) (v := (5 : Int32)) hx hb d_N_take_93 hl rfl (by first | rfl | decide) (by decide) rfl (fun ls hl => ?_)
    refine lv_goto (tgt := 60) hx hb d_N_take_96 rfl ?_
    exact B_N_take_60_5 _ _ _ _ _ _ _ qv1_16 (lv_sub hl [1, 2, 3, 4, 0] rfl) S hq
  have B_N_take_60_3 : ∀ (v1 : Int32) (v2 : Bool) (v3 : Int32) (σ : nS) (H : Heap) (locs : List Loc) (ls : Array Slot), (vp_in v1 16) → lv_has ls 5 [(0, .ref (a 0)), (1, .int v1), (2, .int (bI v2)), (3, .int v3), (4, .int (3 : Int32))] → St D (wC cI cZ a) A s σ H locs → F = s_N_take_60_3 v1 v2 v3 σ → W p l e ({ frames := 2, cells := 0, slots := 0, locals := 42 } : Room) s m args below meth c H locs 0 0 Q (F0 m 60 ls []) := by
    intro v1 v2 v3 σ H locs ls qv1_16 hl S hq
    refine lv_iload hx hb d_N_take_60 (lv_at hl 4 rfl) ?_
    refine va_gets hx hb hE.1 S.2.2 hown (hts _ k_4) (fun _ h9 => h9) d_N_take_62 ?_
    refine va_tlen hx hb hE.2 S.2.2 (v := 7) rfl d_N_take_65 ?_
    refine lv_icmp_ge (tgt := 99) hx hb d_N_take_66 rfl (fun h9 => absurd h9 (by decide)) (fun _ => ?_)
    refine lv_aload_n hx hb d_N_take_69 rfl (lv_at hl 0 rfl) ?_
    refine g_N_19 hx hb hts hown hK S.1 d_N_take_70 ?_
    refine lv_iload_n hx hb d_N_take_73 rfl (lv_at hl 3 rfl) ?_
    refine lv_iconst (v := 4) hx hb d_N_take_74 (by decide) ?_
    refine lv_iload hx hb d_N_take_75 (lv_at hl 4 rfl) ?_
    refine lv_imul hx hb d_N_take_77 ?_
    refine r_ci (v := 12) (by decide) ?_
    refine lv_iadd hx hb d_N_take_78 ?_
    refine lv_aload_n hx hb d_N_take_79 rfl (lv_at hl 0 rfl) ?_
    refine g_N_9 hx hb hts hown hK S.1 d_N_take_80 ?_
    refine va_gets hx hb hE.1 S.2.2 hown (hts _ k_4) (fun _ h9 => h9) d_N_take_83 ?_
    refine lv_iload hx hb d_N_take_86 (lv_at hl 4 rfl) ?_
    refine va_ti hx hb hE.2 S.2.2 (v := .int 3) (vin_dec (by decide)) rfl d_N_take_88 ?_
    refine ld_C_1 (k := 3) hx hb hK S.1 (vin_dec (by decide)) (by decide) d_N_take_89 ?_
    refine callVV X S hl (c_Me_store (v3 + (12 : Int32)) (σ 0 3) _) v_N_62 3 1 ⟨rfl, rfl⟩ (rk_dec (by decide)) rfl rfl (Nat.le_of_ble_eq_true rfl) d_N_take_90 (fun σ1 H locs e1 S => ?_)
    have hq := hq.trans (ap1_eq e1)
    refine lv_iinc (k := 4) (v := (4 : Int32)) hx hb d_N_take_93 hl rfl (by first | rfl | decide) (by decide) rfl (fun ls hl => ?_)
    refine lv_goto (tgt := 60) hx hb d_N_take_96 rfl ?_
    exact B_N_take_60_4 _ _ _ _ _ _ _ qv1_16 (lv_sub hl [1, 2, 3, 4, 0] rfl) S hq
  have B_N_take_60_2 : ∀ (v1 : Int32) (v2 : Bool) (v3 : Int32) (σ : nS) (H : Heap) (locs : List Loc) (ls : Array Slot), (vp_in v1 16) → lv_has ls 5 [(0, .ref (a 0)), (1, .int v1), (2, .int (bI v2)), (3, .int v3), (4, .int (2 : Int32))] → St D (wC cI cZ a) A s σ H locs → F = s_N_take_60_2 v1 v2 v3 σ → W p l e ({ frames := 2, cells := 0, slots := 0, locals := 42 } : Room) s m args below meth c H locs 0 0 Q (F0 m 60 ls []) := by
    intro v1 v2 v3 σ H locs ls qv1_16 hl S hq
    refine lv_iload hx hb d_N_take_60 (lv_at hl 4 rfl) ?_
    refine va_gets hx hb hE.1 S.2.2 hown (hts _ k_4) (fun _ h9 => h9) d_N_take_62 ?_
    refine va_tlen hx hb hE.2 S.2.2 (v := 7) rfl d_N_take_65 ?_
    refine lv_icmp_ge (tgt := 99) hx hb d_N_take_66 rfl (fun h9 => absurd h9 (by decide)) (fun _ => ?_)
    refine lv_aload_n hx hb d_N_take_69 rfl (lv_at hl 0 rfl) ?_
    refine g_N_19 hx hb hts hown hK S.1 d_N_take_70 ?_
    refine lv_iload_n hx hb d_N_take_73 rfl (lv_at hl 3 rfl) ?_
    refine lv_iconst (v := 4) hx hb d_N_take_74 (by decide) ?_
    refine lv_iload hx hb d_N_take_75 (lv_at hl 4 rfl) ?_
    refine lv_imul hx hb d_N_take_77 ?_
    refine r_ci (v := 8) (by decide) ?_
    refine lv_iadd hx hb d_N_take_78 ?_
    refine lv_aload_n hx hb d_N_take_79 rfl (lv_at hl 0 rfl) ?_
    refine g_N_9 hx hb hts hown hK S.1 d_N_take_80 ?_
    refine va_gets hx hb hE.1 S.2.2 hown (hts _ k_4) (fun _ h9 => h9) d_N_take_83 ?_
    refine lv_iload hx hb d_N_take_86 (lv_at hl 4 rfl) ?_
    refine va_ti hx hb hE.2 S.2.2 (v := .int 2) (vin_dec (by decide)) rfl d_N_take_88 ?_
    refine ld_C_1 (k := 2) hx hb hK S.1 (vin_dec (by decide)) (by decide) d_N_take_89 ?_
    refine callVV X S hl (c_Me_store (v3 + (8 : Int32)) (σ 0 2) _) v_N_62 3 1 ⟨rfl, rfl⟩ (rk_dec (by decide)) rfl rfl (Nat.le_of_ble_eq_true rfl) d_N_take_90 (fun σ1 H locs e1 S => ?_)
    have hq := hq.trans (ap1_eq e1)
    refine lv_iinc (k := 4) (v := (3 : Int32)) hx hb d_N_take_93 hl rfl (by first | rfl | decide) (by decide) rfl (fun ls hl => ?_)
    refine lv_goto (tgt := 60) hx hb d_N_take_96 rfl ?_
    exact B_N_take_60_3 _ _ _ _ _ _ _ qv1_16 (lv_sub hl [1, 2, 3, 4, 0] rfl) S hq
  have B_N_take_60_1 : ∀ (v1 : Int32) (v2 : Bool) (v3 : Int32) (σ : nS) (H : Heap) (locs : List Loc) (ls : Array Slot), (vp_in v1 16) → lv_has ls 5 [(0, .ref (a 0)), (1, .int v1), (2, .int (bI v2)), (3, .int v3), (4, .int (1 : Int32))] → St D (wC cI cZ a) A s σ H locs → F = s_N_take_60_1 v1 v2 v3 σ → W p l e ({ frames := 2, cells := 0, slots := 0, locals := 42 } : Room) s m args below meth c H locs 0 0 Q (F0 m 60 ls []) := by
    intro v1 v2 v3 σ H locs ls qv1_16 hl S hq
    refine lv_iload hx hb d_N_take_60 (lv_at hl 4 rfl) ?_
    refine va_gets hx hb hE.1 S.2.2 hown (hts _ k_4) (fun _ h9 => h9) d_N_take_62 ?_
    refine va_tlen hx hb hE.2 S.2.2 (v := 7) rfl d_N_take_65 ?_
    refine lv_icmp_ge (tgt := 99) hx hb d_N_take_66 rfl (fun h9 => absurd h9 (by decide)) (fun _ => ?_)
    refine lv_aload_n hx hb d_N_take_69 rfl (lv_at hl 0 rfl) ?_
    refine g_N_19 hx hb hts hown hK S.1 d_N_take_70 ?_
    refine lv_iload_n hx hb d_N_take_73 rfl (lv_at hl 3 rfl) ?_
    refine lv_iconst (v := 4) hx hb d_N_take_74 (by decide) ?_
    refine lv_iload hx hb d_N_take_75 (lv_at hl 4 rfl) ?_
    refine lv_imul hx hb d_N_take_77 ?_
    refine r_ci (v := 4) (by decide) ?_
    refine lv_iadd hx hb d_N_take_78 ?_
    refine lv_aload_n hx hb d_N_take_79 rfl (lv_at hl 0 rfl) ?_
    refine g_N_9 hx hb hts hown hK S.1 d_N_take_80 ?_
    refine va_gets hx hb hE.1 S.2.2 hown (hts _ k_4) (fun _ h9 => h9) d_N_take_83 ?_
    refine lv_iload hx hb d_N_take_86 (lv_at hl 4 rfl) ?_
    refine va_ti hx hb hE.2 S.2.2 (v := .int 1) (vin_dec (by decide)) rfl d_N_take_88 ?_
    refine ld_C_1 (k := 1) hx hb hK S.1 (vin_dec (by decide)) (by decide) d_N_take_89 ?_
    refine callVV X S hl (c_Me_store (v3 + (4 : Int32)) (σ 0 1) _) v_N_62 3 1 ⟨rfl, rfl⟩ (rk_dec (by decide)) rfl rfl (Nat.le_of_ble_eq_true rfl) d_N_take_90 (fun σ1 H locs e1 S => ?_)
    have hq := hq.trans (ap1_eq e1)
    refine lv_iinc (k := 4) (v := (2 : Int32)) hx hb d_N_take_93 hl rfl (by first | rfl | decide) (by decide) rfl (fun ls hl => ?_)
    refine lv_goto (tgt := 60) hx hb d_N_take_96 rfl ?_
    exact B_N_take_60_2 _ _ _ _ _ _ _ qv1_16 (lv_sub hl [1, 2, 3, 4, 0] rfl) S hq
  have B_N_take_60_0 : ∀ (v1 : Int32) (v2 : Bool) (v3 : Int32) (σ : nS) (H : Heap) (locs : List Loc) (ls : Array Slot), (vp_in v1 16) → lv_has ls 5 [(0, .ref (a 0)), (1, .int v1), (2, .int (bI v2)), (3, .int v3), (4, .int (0 : Int32))] → St D (wC cI cZ a) A s σ H locs → F = s_N_take_60_0 v1 v2 v3 σ → W p l e ({ frames := 2, cells := 0, slots := 0, locals := 42 } : Room) s m args below meth c H locs 0 0 Q (F0 m 60 ls []) := by
    intro v1 v2 v3 σ H locs ls qv1_16 hl S hq
    refine lv_iload hx hb d_N_take_60 (lv_at hl 4 rfl) ?_
    refine va_gets hx hb hE.1 S.2.2 hown (hts _ k_4) (fun _ h9 => h9) d_N_take_62 ?_
    refine va_tlen hx hb hE.2 S.2.2 (v := 7) rfl d_N_take_65 ?_
    refine lv_icmp_ge (tgt := 99) hx hb d_N_take_66 rfl (fun h9 => absurd h9 (by decide)) (fun _ => ?_)
    refine lv_aload_n hx hb d_N_take_69 rfl (lv_at hl 0 rfl) ?_
    refine g_N_19 hx hb hts hown hK S.1 d_N_take_70 ?_
    refine lv_iload_n hx hb d_N_take_73 rfl (lv_at hl 3 rfl) ?_
    refine lv_iconst (v := 4) hx hb d_N_take_74 (by decide) ?_
    refine lv_iload hx hb d_N_take_75 (lv_at hl 4 rfl) ?_
    refine lv_imul hx hb d_N_take_77 ?_
    refine r_ci (v := 0) (by decide) ?_
    refine lv_iadd hx hb d_N_take_78 ?_
    refine lv_aload_n hx hb d_N_take_79 rfl (lv_at hl 0 rfl) ?_
    refine g_N_9 hx hb hts hown hK S.1 d_N_take_80 ?_
    refine va_gets hx hb hE.1 S.2.2 hown (hts _ k_4) (fun _ h9 => h9) d_N_take_83 ?_
    refine lv_iload hx hb d_N_take_86 (lv_at hl 4 rfl) ?_
    refine va_ti hx hb hE.2 S.2.2 (v := .int 0) (vin_dec (by decide)) rfl d_N_take_88 ?_
    refine ld_C_1 (k := 0) hx hb hK S.1 (vin_dec (by decide)) (by decide) d_N_take_89 ?_
    refine callVV X S hl (c_Me_store (v3 + (0 : Int32)) (σ 0 0) _) v_N_62 3 1 ⟨rfl, rfl⟩ (rk_dec (by decide)) rfl rfl (Nat.le_of_ble_eq_true rfl) d_N_take_90 (fun σ1 H locs e1 S => ?_)
    have hq := hq.trans (ap1_eq e1)
    refine lv_iinc (k := 4) (v := (1 : Int32)) hx hb d_N_take_93 hl rfl (by first | rfl | decide) (by decide) rfl (fun ls hl => ?_)
    refine lv_goto (tgt := 60) hx hb d_N_take_96 rfl ?_
    exact B_N_take_60_1 _ _ _ _ _ _ _ qv1_16 (lv_sub hl [1, 2, 3, 4, 0] rfl) S hq
  have B_N_take_38 : ∀ (v1 : Int32) (v2 : Bool) (k0 : Int32) (k1 : Int32) (σ : nS) (H : Heap) (locs : List Loc) (ls : Array Slot), (vp_in v1 16) → lv_has ls 5 [(0, .ref (a 0)), (1, .int v1), (2, .int (bI v2))] → St D (wC cI cZ a) A s σ H locs → F = s_N_take_38 v1 v2 k0 k1 σ → W p l e ({ frames := 2, cells := 0, slots := 0, locals := 42 } : Room) s m args below meth c H locs 0 0 Q (F0 m 38 ls [.int k1, .int k0]) := by
    intro v1 v2 k0 k1 σ H locs ls qv1_16 hl S hq
    refine lv_isub hx hb d_N_take_38 ?_
    refine lv_istore_n hx hb d_N_take_39 rfl hl (by decide) rfl (fun ls hl => ?_)
    refine lv_aload_n hx hb d_N_take_40 rfl (lv_at hl 1 rfl) ?_
    refine g_N_19 hx hb hts hown hK S.1 d_N_take_41 ?_
    refine lv_iload_n hx hb d_N_take_44 rfl (lv_at hl 0 rfl) ?_
    refine callVZp X S hl (c_Me_holdsFrame (k0 - k1) _) v_N_181 3 1 ⟨rfl, rfl⟩ (rk_dec (by decide)) rfl rfl (Nat.le_of_ble_eq_true rfl) d_N_take_45 (fun H locs S => ?_)
    refine r_ifneZ (tgt := 57) hx hb d_N_take_48 rfl (fun h48 => ?_) (fun h48 => ?_)
    · have hq := hq.trans (if_pos h48)
      refine lv_iconst (v := 0) hx hb d_N_take_57 (by decide) ?_
      refine lv_istore hx hb d_N_take_58 hl (by decide) rfl (fun ls hl => ?_)
      exact B_N_take_60_0 _ _ _ _ _ _ _ qv1_16 (lv_sub hl [2, 3, 4, 1, 0] rfl) S hq
    · have hq := hq.trans (if_neg h48)
      refine lv_aload_n hx hb d_N_take_51 rfl (lv_at hl 1 rfl) ?_
      refine lv_iconst (v := 2) hx hb d_N_take_52 (by decide) ?_
      refine p_N_118 hx hb hts hown hK S d_N_take_53 (fun H locs S => ?_)
      exact ret _ _ _ _ _ S hq d_N_take_56
  have B_N_take_18 : ∀ (v1 : Int32) (k0 : Bool) (σ : nS) (H : Heap) (locs : List Loc) (ls : Array Slot), (vp_in v1 16) → lv_has ls 5 [(0, .ref (a 0)), (1, .int v1)] → St D (wC cI cZ a) A s σ H locs → F = s_N_take_18 v1 k0 σ → W p l e ({ frames := 2, cells := 0, slots := 0, locals := 42 } : Room) s m args below meth c H locs 0 0 Q (F0 m 18 ls [.int (bI k0)]) := by
    intro v1 k0 σ H locs ls qv1_16 hl S hq
    refine lv_istore_n hx hb d_N_take_18 rfl hl (by decide) rfl (fun ls hl => ?_)
    refine lv_aload_n hx hb d_N_take_19 rfl (lv_at hl 1 rfl) ?_
    refine g_N_9 hx hb hts hown hK S.1 d_N_take_20 ?_
    refine lv_bipush (v := 13) hx hb d_N_take_23 (by decide) ?_
    refine ld_C_1 (k := 13) hx hb hK S.1 (vin_dec (by decide)) (by decide) d_N_take_25 ?_
    refine lv_bipush (v := 32) hx hb d_N_take_26 (by decide) ?_
    refine lv_isub hx hb d_N_take_28 ?_
    refine lv_iload_n hx hb d_N_take_29 rfl (lv_at hl 0 rfl) ?_
    refine r_ifeqZ (tgt := 37) hx hb d_N_take_30 rfl (fun h30 => ?_) (fun h30 => ?_)
    · have hq := hq.trans (if_neg h30)
      refine lv_iconst (v := 0) hx hb d_N_take_37 (by decide) ?_
      exact B_N_take_38 _ _ _ _ _ _ _ _ qv1_16 (lv_sub hl [1, 2, 0] rfl) S hq
    · have hq := hq.trans (if_pos h30)
      refine lv_iconst (v := 4) hx hb d_N_take_33 (by decide) ?_
      refine lv_goto (tgt := 38) hx hb d_N_take_34 rfl ?_
      exact B_N_take_38 _ _ _ _ _ _ _ _ qv1_16 (lv_sub hl [1, 2, 0] rfl) S hq
  refine lv_aload_n hx hb d_N_take_0 rfl (lv_at hl 0 rfl) ?_
  refine g_N_9 hx hb hts hown hK S.1 d_N_take_1 ?_
  refine lv_bipush (v := 13) hx hb d_N_take_4 (by decide) ?_
  refine ld_C_1 (k := 13) hx hb hK S.1 (vin_dec (by decide)) (by decide) d_N_take_6 ?_
  refine lv_bipush (v := 7) hx hb d_N_take_7 (by decide) ?_
  refine lv_iand hx hb d_N_take_9 ?_
  refine lv_if_eq (tgt := 17) hx hb d_N_take_10 rfl (fun h10 => ?_) (fun h10 => ?_)
  · have hq := hq.trans (if_pos h10)
    refine lv_iconst (v := 0) hx hb d_N_take_17 (by decide) ?_
    exact B_N_take_18 _ false _ _ _ _ qv1_16 (lv_sub hl [0, 1] rfl) S hq
  · have hq := hq.trans (if_neg h10)
    refine lv_iconst (v := 1) hx hb d_N_take_13 (by decide) ?_
    refine lv_goto (tgt := 18) hx hb d_N_take_14 rfl ?_
    exact B_N_take_18 _ true _ _ _ _ qv1_16 (lv_sub hl [0, 1] rfl) S hq
set_option maxHeartbeats 4000000 in
set_option maxRecDepth 100000 in
theorem c_Me_holdsHalf (v1 : Int32) (σ : nS) : CtZ l D cI cZ (wC cI cZ a) (exC t) y_Me_holdsHalf b_Me_holdsHalf 2 { frames := 0, cells := 0, slots := 0, locals := 0 } [.ref (a 3), .int v1] σ (s_Me_holdsHalf v1, σ) := by
  generalize hF : s_Me_holdsHalf v1 = F
  refine metZp (exC_ok t) (by decide) (Nat.le_of_ble_eq_true rfl) (fun p e s m args below meth c A Q ls X S hl ret => ?_)
  have hq := hF.symm
  obtain ⟨hx, hb, hml, hown, hts, hK, hA, hE, hlk, hEo⟩ := id X
  have hl : lv_has ls 2 [(0, .ref (a 3)), (1, .int v1)] := hl
  have B_Me_holdsHalf_21 : ∀ (H : Heap) (locs : List Loc) (ls : Array Slot), lv_has ls 2 [] → St D (wC cI cZ a) A s σ H locs → F = s_Me_holdsHalf_21 → W p l e ({ frames := 0, cells := 0, slots := 0, locals := 0 } : Room) s m args below meth c H locs 0 0 Q (F0 m 21 ls []) := by
    intro H locs ls hl S hq
    refine lv_iconst (v := 0) hx hb d_Me_holdsHalf_21 (by decide) ?_
    exact ret _ _ _ _ false S hq d_Me_holdsHalf_22
  refine lv_iload_n hx hb d_Me_holdsHalf_0 rfl (lv_at hl 1 rfl) ?_
  refine lv_if_lt (tgt := 21) hx hb d_Me_holdsHalf_1 rfl (fun h1 => ?_) (fun h1 => ?_)
  · have hq := hq.trans (if_pos h1)
    exact B_Me_holdsHalf_21 _ _ _ (lv_sub hl [] rfl) S hq
  · have hq := hq.trans (if_neg h1)
    refine lv_iload_n hx hb d_Me_holdsHalf_4 rfl (lv_at hl 1 rfl) ?_
    refine lv_sipush (v := 1024) hx hb d_Me_holdsHalf_5 (by decide) ?_
    refine lv_icmp_ge (tgt := 21) hx hb d_Me_holdsHalf_8 rfl (fun h8 => ?_) (fun h8 => ?_)
    · have hq := hq.trans (if_pos h8)
      exact B_Me_holdsHalf_21 _ _ _ (lv_sub hl [] rfl) S hq
    · have hq := hq.trans (if_neg h8)
      refine lv_iload_n hx hb d_Me_holdsHalf_11 rfl (lv_at hl 1 rfl) ?_
      refine lv_iconst (v := 1) hx hb d_Me_holdsHalf_12 (by decide) ?_
      refine lv_iand hx hb d_Me_holdsHalf_13 ?_
      refine lv_if_ne (tgt := 21) hx hb d_Me_holdsHalf_14 rfl (fun h14 => ?_) (fun h14 => ?_)
      · have hq := hq.trans (if_neg h14)
        exact B_Me_holdsHalf_21 _ _ _ (lv_sub hl [] rfl) S hq
      · have hq := hq.trans (if_pos h14)
        refine lv_iconst (v := 1) hx hb d_Me_holdsHalf_17 (by decide) ?_
        refine lv_goto (tgt := 22) hx hb d_Me_holdsHalf_18 rfl ?_
        exact ret _ _ _ _ true S hq d_Me_holdsHalf_22
end CT
