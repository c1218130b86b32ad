section CT
variable {l : Launch} {D : va_G} {cI cZ : ClassId} {a : Nat → Nat} {t : Nat}
set_option maxHeartbeats 4000000 in
set_option maxRecDepth 100000 in
theorem c_Ar_bars (v1 : Int32) (v2 : Int32) (v3 : Bool) (σ : nS) : CtZ l D cI cZ (wC cI cZ a) (exC t) y_Ar_bars b_Ar_bars 5 { frames := 0, cells := 0, slots := 0, locals := 0 } [.ref (a 5), .int v1, .int v2, .int (bI v3)] σ (s_Ar_bars v1 v2 v3 σ, σ) := by
  generalize hF : s_Ar_bars v1 v2 v3 σ = F
  refine metZp (exC_ok t) (by decide) (Nat.le_of_ble_eq_true rfl) (fun p e s m args below meth c A Q ls X S hl ret => ?_)
  have hq := hF.symm
  obtain ⟨hx, hb, hml, hown, hts, hK, hA, hE, hlk, hEo⟩ := id X
  have hl : lv_has ls 5 [(0, .ref (a 5)), (1, .int v1), (2, .int v2), (3, .int (bI v3))] := hl
  have B_Ar_bars_3_m1 : ∀ (v1 : Int32) (v2 : Int32) (v3 : Bool) (H : Heap) (locs : List Loc) (ls : Array Slot), lv_has ls 5 [(0, .ref (a 5)), (1, .int v1), (2, .int v2), (3, .int (bI v3)), (4, .int (-1 : Int32))] → St D (wC cI cZ a) A s σ H locs → F = s_Ar_bars_3_m1 v1 v2 v3 σ → W p l e ({ frames := 0, cells := 0, slots := 0, locals := 0 } : Room) s m args below meth c H locs 0 0 Q (F0 m 3 ls []) := by
    intro v1 v2 v3 H locs ls hl S hq
    refine lv_iload hx hb d_Ar_bars_3 (lv_at hl 4 rfl) ?_
    refine lv_if_lt (tgt := 75) hx hb d_Ar_bars_5 rfl (fun _ => ?_) (fun h9 => absurd (by decide) h9)
    refine lv_iconst (v := 0) hx hb d_Ar_bars_75 (by decide) ?_
    exact ret _ _ _ _ false S hq d_Ar_bars_76
  have B_Ar_bars_69_0 : ∀ (v1 : Int32) (v2 : Int32) (v3 : Bool) (H : Heap) (locs : List Loc) (ls : Array Slot), lv_has ls 5 [(0, .ref (a 5)), (1, .int v1), (2, .int v2), (3, .int (bI v3)), (4, .int (0 : Int32))] → St D (wC cI cZ a) A s σ H locs → F = s_Ar_bars_69_0 v1 v2 v3 σ → W p l e ({ frames := 0, cells := 0, slots := 0, locals := 0 } : Room) s m args below meth c H locs 0 0 Q (F0 m 69 ls []) := by
    intro v1 v2 v3 H locs ls hl S hq
    refine lv_iinc (k := 4) (v := (-1 : Int32)) hx hb d_Ar_bars_69 hl rfl (by first | rfl | decide) (by decide) rfl (fun ls hl => ?_)
    refine lv_goto (tgt := 3) hx hb d_Ar_bars_72 rfl ?_
    exact B_Ar_bars_3_m1 _ _ _ _ _ _ (lv_sub hl [1, 2, 3, 4, 0] rfl) S hq
  have B_Ar_bars_63 : ∀ (H : Heap) (locs : List Loc) (ls : Array Slot), lv_has ls 5 [] → St D (wC cI cZ a) A s σ H locs → F = s_Ar_bars_63 σ → W p l e ({ frames := 0, cells := 0, slots := 0, locals := 0 } : Room) s m args below meth c H locs 0 0 Q (F0 m 63 ls []) := by
    intro H locs ls hl S hq
    refine lv_iconst (v := 1) hx hb d_Ar_bars_63 (by decide) ?_
    refine lv_goto (tgt := 68) hx hb d_Ar_bars_64 rfl ?_
    exact ret _ _ _ _ true S hq d_Ar_bars_68
  have B_Ar_bars_67 : ∀ (H : Heap) (locs : List Loc) (ls : Array Slot), lv_has ls 5 [] → St D (wC cI cZ a) A s σ H locs → F = s_Ar_bars_67 σ → W p l e ({ frames := 0, cells := 0, slots := 0, locals := 0 } : Room) s m args below meth c H locs 0 0 Q (F0 m 67 ls []) := by
    intro H locs ls hl S hq
    refine lv_iconst (v := 0) hx hb d_Ar_bars_67 (by decide) ?_
    exact ret _ _ _ _ false S hq d_Ar_bars_68
  have B_Ar_bars_3_0 : ∀ (v1 : Int32) (v2 : Int32) (v3 : Bool) (H : Heap) (locs : List Loc) (ls : Array Slot), lv_has ls 5 [(0, .ref (a 5)), (1, .int v1), (2, .int v2), (3, .int (bI v3)), (4, .int (0 : Int32))] → St D (wC cI cZ a) A s σ H locs → F = s_Ar_bars_3_0 v1 v2 v3 σ → W p l e ({ frames := 0, cells := 0, slots := 0, locals := 0 } : Room) s m args below meth c H locs 0 0 Q (F0 m 3 ls []) := by
    intro v1 v2 v3 H locs ls hl S hq
    refine lv_iload hx hb d_Ar_bars_3 (lv_at hl 4 rfl) ?_
    refine lv_if_lt (tgt := 75) hx hb d_Ar_bars_5 rfl (fun h9 => absurd h9 (by decide)) (fun _ => ?_)
    refine lv_iload_n hx hb d_Ar_bars_8 rfl (lv_at hl 1 rfl) ?_
    refine lv_aload_n hx hb d_Ar_bars_9 rfl (lv_at hl 0 rfl) ?_
    refine g_Ar_9 hx hb hts hown hK S.1 d_Ar_bars_10 ?_
    refine lv_iload hx hb d_Ar_bars_13 (lv_at hl 4 rfl) ?_
    refine ld_C_6 (k := 0) hx hb hK S.1 (vin_dec (by decide)) (by decide) d_Ar_bars_15 ?_
    refine lv_icmp_lt (tgt := 69) hx hb d_Ar_bars_16 rfl (fun h16 => ?_) (fun h16 => ?_)
    · have hq := hq.trans (if_pos h16)
      exact B_Ar_bars_69_0 _ _ _ _ _ _ (lv_sub hl [0, 1, 2, 3, 4] rfl) S hq
    · have hq := hq.trans (if_neg h16)
      refine lv_iload_n hx hb d_Ar_bars_19 rfl (lv_at hl 1 rfl) ?_
      refine lv_aload_n hx hb d_Ar_bars_20 rfl (lv_at hl 0 rfl) ?_
      refine g_Ar_9 hx hb hts hown hK S.1 d_Ar_bars_21 ?_
      refine lv_iload hx hb d_Ar_bars_24 (lv_at hl 4 rfl) ?_
      refine ld_C_6 (k := 0) hx hb hK S.1 (vin_dec (by decide)) (by decide) d_Ar_bars_26 ?_
      refine lv_aload_n hx hb d_Ar_bars_27 rfl (lv_at hl 0 rfl) ?_
      refine g_Ar_15 hx hb hts hown hK S.1 d_Ar_bars_28 ?_
      refine lv_iload hx hb d_Ar_bars_31 (lv_at hl 4 rfl) ?_
      refine ld_C_7 (k := 0) hx hb hK S.1 (vin_dec (by decide)) (by decide) d_Ar_bars_33 ?_
      refine lv_iadd hx hb d_Ar_bars_34 ?_
      refine lv_icmp_ge (tgt := 69) hx hb d_Ar_bars_35 rfl (fun h35 => ?_) (fun h35 => ?_)
      · have hq := hq.trans (if_pos h35)
        exact B_Ar_bars_69_0 _ _ _ _ _ _ (lv_sub hl [0, 1, 2, 3, 4] rfl) S hq
      · have hq := hq.trans (if_neg h35)
        refine lv_aload_n hx hb d_Ar_bars_38 rfl (lv_at hl 0 rfl) ?_
        refine g_Ar_18 hx hb hts hown hK S.1 d_Ar_bars_39 ?_
        refine lv_iload hx hb d_Ar_bars_42 (lv_at hl 4 rfl) ?_
        refine ld_C_8 (k := 0) hx hb hK S.1 (vin_dec (by decide)) (by decide) d_Ar_bars_44 ?_
        refine lv_iload_n hx hb d_Ar_bars_45 rfl (lv_at hl 2 rfl) ?_
        refine lv_icmp_lt (tgt := 63) hx hb d_Ar_bars_46 rfl (fun h46 => ?_) (fun h46 => ?_)
        · have hq := hq.trans (if_pos h46)
          exact B_Ar_bars_63 _ _ _ (lv_sub hl [] rfl) S hq
        · have hq := hq.trans (if_neg h46)
          refine lv_iload_n hx hb d_Ar_bars_49 rfl (lv_at hl 3 rfl) ?_
          refine r_ifeqZ (tgt := 67) hx hb d_Ar_bars_50 rfl (fun h50 => ?_) (fun h50 => ?_)
          · have hq := hq.trans (if_neg h50)
            exact B_Ar_bars_67 _ _ _ (lv_sub hl [] rfl) S hq
          · have hq := hq.trans (if_pos h50)
            refine lv_aload_n hx hb d_Ar_bars_53 rfl (lv_at hl 0 rfl) ?_
            refine g_Ar_21 hx hb hts hown hK S.1 d_Ar_bars_54 ?_
            refine lv_iload hx hb d_Ar_bars_57 (lv_at hl 4 rfl) ?_
            refine ld_C_9 (k := 0) hx hb hK S.1 (vin_dec (by decide)) (by decide) d_Ar_bars_59 ?_
            refine lv_if_eq (tgt := 67) hx hb d_Ar_bars_60 rfl (fun h60 => ?_) (fun h60 => ?_)
            · have hq := hq.trans (if_pos h60)
              exact B_Ar_bars_67 _ _ _ (lv_sub hl [] rfl) S hq
            · have hq := hq.trans (if_neg h60)
              exact B_Ar_bars_63 _ _ _ (lv_sub hl [] rfl) S hq
  have B_Ar_bars_69_1 : ∀ (v1 : Int32) (v2 : Int32) (v3 : Bool) (H : Heap) (locs : List Loc) (ls : Array Slot), lv_has ls 5 [(0, .ref (a 5)), (1, .int v1), (2, .int v2), (3, .int (bI v3)), (4, .int (1 : Int32))] → St D (wC cI cZ a) A s σ H locs → F = s_Ar_bars_69_1 v1 v2 v3 σ → W p l e ({ frames := 0, cells := 0, slots := 0, locals := 0 } : Room) s m args below meth c H locs 0 0 Q (F0 m 69 ls []) := by
    intro v1 v2 v3 H locs ls hl S hq
    refine lv_iinc (k := 4) (v := (0 : Int32)) hx hb d_Ar_bars_69 hl rfl (by first | rfl | decide) (by decide) rfl (fun ls hl => ?_)
    refine lv_goto (tgt := 3) hx hb d_Ar_bars_72 rfl ?_
    exact B_Ar_bars_3_0 _ _ _ _ _ _ (lv_sub hl [1, 2, 3, 4, 0] rfl) S hq
  have B_Ar_bars_3_1 : ∀ (v1 : Int32) (v2 : Int32) (v3 : Bool) (H : Heap) (locs : List Loc) (ls : Array Slot), lv_has ls 5 [(0, .ref (a 5)), (1, .int v1), (2, .int v2), (3, .int (bI v3)), (4, .int (1 : Int32))] → St D (wC cI cZ a) A s σ H locs → F = s_Ar_bars_3_1 v1 v2 v3 σ → W p l e ({ frames := 0, cells := 0, slots := 0, locals := 0 } : Room) s m args below meth c H locs 0 0 Q (F0 m 3 ls []) := by
    intro v1 v2 v3 H locs ls hl S hq
    refine lv_iload hx hb d_Ar_bars_3 (lv_at hl 4 rfl) ?_
    refine lv_if_lt (tgt := 75) hx hb d_Ar_bars_5 rfl (fun h9 => absurd h9 (by decide)) (fun _ => ?_)
    refine lv_iload_n hx hb d_Ar_bars_8 rfl (lv_at hl 1 rfl) ?_
    refine lv_aload_n hx hb d_Ar_bars_9 rfl (lv_at hl 0 rfl) ?_
    refine g_Ar_9 hx hb hts hown hK S.1 d_Ar_bars_10 ?_
    refine lv_iload hx hb d_Ar_bars_13 (lv_at hl 4 rfl) ?_
    refine ld_C_6 (k := 1) hx hb hK S.1 (vin_dec (by decide)) (by decide) d_Ar_bars_15 ?_
    refine lv_icmp_lt (tgt := 69) hx hb d_Ar_bars_16 rfl (fun h16 => ?_) (fun h16 => ?_)
    · have hq := hq.trans (if_pos h16)
      exact B_Ar_bars_69_1 _ _ _ _ _ _ (lv_sub hl [0, 1, 2, 3, 4] rfl) S hq
    · have hq := hq.trans (if_neg h16)
      refine lv_iload_n hx hb d_Ar_bars_19 rfl (lv_at hl 1 rfl) ?_
      refine lv_aload_n hx hb d_Ar_bars_20 rfl (lv_at hl 0 rfl) ?_
      refine g_Ar_9 hx hb hts hown hK S.1 d_Ar_bars_21 ?_
      refine lv_iload hx hb d_Ar_bars_24 (lv_at hl 4 rfl) ?_
      refine ld_C_6 (k := 1) hx hb hK S.1 (vin_dec (by decide)) (by decide) d_Ar_bars_26 ?_
      refine lv_aload_n hx hb d_Ar_bars_27 rfl (lv_at hl 0 rfl) ?_
      refine g_Ar_15 hx hb hts hown hK S.1 d_Ar_bars_28 ?_
      refine lv_iload hx hb d_Ar_bars_31 (lv_at hl 4 rfl) ?_
      refine ld_C_7 (k := 1) hx hb hK S.1 (vin_dec (by decide)) (by decide) d_Ar_bars_33 ?_
      refine lv_iadd hx hb d_Ar_bars_34 ?_
      refine lv_icmp_ge (tgt := 69) hx hb d_Ar_bars_35 rfl (fun h35 => ?_) (fun h35 => ?_)
      · have hq := hq.trans (if_pos h35)
        exact B_Ar_bars_69_1 _ _ _ _ _ _ (lv_sub hl [0, 1, 2, 3, 4] rfl) S hq
      · have hq := hq.trans (if_neg h35)
        refine lv_aload_n hx hb d_Ar_bars_38 rfl (lv_at hl 0 rfl) ?_
        refine g_Ar_18 hx hb hts hown hK S.1 d_Ar_bars_39 ?_
        refine lv_iload hx hb d_Ar_bars_42 (lv_at hl 4 rfl) ?_
        refine ld_C_8 (k := 1) hx hb hK S.1 (vin_dec (by decide)) (by decide) d_Ar_bars_44 ?_
        refine lv_iload_n hx hb d_Ar_bars_45 rfl (lv_at hl 2 rfl) ?_
        refine lv_icmp_lt (tgt := 63) hx hb d_Ar_bars_46 rfl (fun h46 => ?_) (fun h46 => ?_)
        · have hq := hq.trans (if_pos h46)
          exact B_Ar_bars_63 _ _ _ (lv_sub hl [] rfl) S hq
        · have hq := hq.trans (if_neg h46)
          refine lv_iload_n hx hb d_Ar_bars_49 rfl (lv_at hl 3 rfl) ?_
          refine r_ifeqZ (tgt := 67) hx hb d_Ar_bars_50 rfl (fun h50 => ?_) (fun h50 => ?_)
          · have hq := hq.trans (if_neg h50)
            exact B_Ar_bars_67 _ _ _ (lv_sub hl [] rfl) S hq
          · have hq := hq.trans (if_pos h50)
            refine lv_aload_n hx hb d_Ar_bars_53 rfl (lv_at hl 0 rfl) ?_
            refine g_Ar_21 hx hb hts hown hK S.1 d_Ar_bars_54 ?_
            refine lv_iload hx hb d_Ar_bars_57 (lv_at hl 4 rfl) ?_
            refine ld_C_9 (k := 1) hx hb hK S.1 (vin_dec (by decide)) (by decide) d_Ar_bars_59 ?_
            refine lv_if_eq (tgt := 67) hx hb d_Ar_bars_60 rfl (fun h60 => ?_) (fun h60 => ?_)
            · have hq := hq.trans (if_pos h60)
              exact B_Ar_bars_67 _ _ _ (lv_sub hl [] rfl) S hq
            · have hq := hq.trans (if_neg h60)
              exact B_Ar_bars_63 _ _ _ (lv_sub hl [] rfl) S hq
  have B_Ar_bars_69_2 : ∀ (v1 : Int32) (v2 : Int32) (v3 : Bool) (H : Heap) (locs : List Loc) (ls : Array Slot), lv_has ls 5 [(0, .ref (a 5)), (1, .int v1), (2, .int v2), (3, .int (bI v3)), (4, .int (2 : Int32))] → St D (wC cI cZ a) A s σ H locs → F = s_Ar_bars_69_2 v1 v2 v3 σ → W p l e ({ frames := 0, cells := 0, slots := 0, locals := 0 } : Room) s m args below meth c H locs 0 0 Q (F0 m 69 ls []) := by
    intro v1 v2 v3 H locs ls hl S hq
    refine lv_iinc (k := 4) (v := (1 : Int32)) hx hb d_Ar_bars_69 hl rfl (by first | rfl | decide) (by decide) rfl (fun ls hl => ?_)
    refine lv_goto (tgt := 3) hx hb d_Ar_bars_72 rfl ?_
    exact B_Ar_bars_3_1 _ _ _ _ _ _ (lv_sub hl [1, 2, 3, 4, 0] rfl) S hq
  have B_Ar_bars_3_2 : ∀ (v1 : Int32) (v2 : Int32) (v3 : Bool) (H : Heap) (locs : List Loc) (ls : Array Slot), lv_has ls 5 [(0, .ref (a 5)), (1, .int v1), (2, .int v2), (3, .int (bI v3)), (4, .int (2 : Int32))] → St D (wC cI cZ a) A s σ H locs → F = s_Ar_bars_3_2 v1 v2 v3 σ → W p l e ({ frames := 0, cells := 0, slots := 0, locals := 0 } : Room) s m args below meth c H locs 0 0 Q (F0 m 3 ls []) := by
    intro v1 v2 v3 H locs ls hl S hq
    refine lv_iload hx hb d_Ar_bars_3 (lv_at hl 4 rfl) ?_
    refine lv_if_lt (tgt := 75) hx hb d_Ar_bars_5 rfl (fun h9 => absurd h9 (by decide)) (fun _ => ?_)
    refine lv_iload_n hx hb d_Ar_bars_8 rfl (lv_at hl 1 rfl) ?_
    refine lv_aload_n hx hb d_Ar_bars_9 rfl (lv_at hl 0 rfl) ?_
    refine g_Ar_9 hx hb hts hown hK S.1 d_Ar_bars_10 ?_
    refine lv_iload hx hb d_Ar_bars_13 (lv_at hl 4 rfl) ?_
    refine ld_C_6 (k := 2) hx hb hK S.1 (vin_dec (by decide)) (by decide) d_Ar_bars_15 ?_
    refine lv_icmp_lt (tgt := 69) hx hb d_Ar_bars_16 rfl (fun h16 => ?_) (fun h16 => ?_)
    · have hq := hq.trans (if_pos h16)
      exact B_Ar_bars_69_2 _ _ _ _ _ _ (lv_sub hl [0, 1, 2, 3, 4] rfl) S hq
    · have hq := hq.trans (if_neg h16)
      refine lv_iload_n hx hb d_Ar_bars_19 rfl (lv_at hl 1 rfl) ?_
      refine lv_aload_n hx hb d_Ar_bars_20 rfl (lv_at hl 0 rfl) ?_
      refine g_Ar_9 hx hb hts hown hK S.1 d_Ar_bars_21 ?_
      refine lv_iload hx hb d_Ar_bars_24 (lv_at hl 4 rfl) ?_
      refine ld_C_6 (k := 2) hx hb hK S.1 (vin_dec (by decide)) (by decide) d_Ar_bars_26 ?_
      refine lv_aload_n hx hb d_Ar_bars_27 rfl (lv_at hl 0 rfl) ?_
      refine g_Ar_15 hx hb hts hown hK S.1 d_Ar_bars_28 ?_
      refine lv_iload hx hb d_Ar_bars_31 (lv_at hl 4 rfl) ?_
      refine ld_C_7 (k := 2) hx hb hK S.1 (vin_dec (by decide)) (by decide) d_Ar_bars_33 ?_
      refine lv_iadd hx hb d_Ar_bars_34 ?_
      refine lv_icmp_ge (tgt := 69) hx hb d_Ar_bars_35 rfl (fun h35 => ?_) (fun h35 => ?_)
      · have hq := hq.trans (if_pos h35)
        exact B_Ar_bars_69_2 _ _ _ _ _ _ (lv_sub hl [0, 1, 2, 3, 4] rfl) S hq
      · have hq := hq.trans (if_neg h35)
        refine lv_aload_n hx hb d_Ar_bars_38 rfl (lv_at hl 0 rfl) ?_
        refine g_Ar_18 hx hb hts hown hK S.1 d_Ar_bars_39 ?_
        refine lv_iload hx hb d_Ar_bars_42 (lv_at hl 4 rfl) ?_
        refine ld_C_8 (k := 2) hx hb hK S.1 (vin_dec (by decide)) (by decide) d_Ar_bars_44 ?_
        refine lv_iload_n hx hb d_Ar_bars_45 rfl (lv_at hl 2 rfl) ?_
        refine lv_icmp_lt (tgt := 63) hx hb d_Ar_bars_46 rfl (fun h46 => ?_) (fun h46 => ?_)
        · have hq := hq.trans (if_pos h46)
          exact B_Ar_bars_63 _ _ _ (lv_sub hl [] rfl) S hq
        · have hq := hq.trans (if_neg h46)
          refine lv_iload_n hx hb d_Ar_bars_49 rfl (lv_at hl 3 rfl) ?_
          refine r_ifeqZ (tgt := 67) hx hb d_Ar_bars_50 rfl (fun h50 => ?_) (fun h50 => ?_)
          · have hq := hq.trans (if_neg h50)
            exact B_Ar_bars_67 _ _ _ (lv_sub hl [] rfl) S hq
          · have hq := hq.trans (if_pos h50)
            refine lv_aload_n hx hb d_Ar_bars_53 rfl (lv_at hl 0 rfl) ?_
            refine g_Ar_21 hx hb hts hown hK S.1 d_Ar_bars_54 ?_
            refine lv_iload hx hb d_Ar_bars_57 (lv_at hl 4 rfl) ?_
            refine ld_C_9 (k := 2) hx hb hK S.1 (vin_dec (by decide)) (by decide) d_Ar_bars_59 ?_
            refine lv_if_eq (tgt := 67) hx hb d_Ar_bars_60 rfl (fun h60 => ?_) (fun h60 => ?_)
            · have hq := hq.trans (if_pos h60)
              exact B_Ar_bars_67 _ _ _ (lv_sub hl [] rfl) S hq
            · have hq := hq.trans (if_neg h60)
              exact B_Ar_bars_63 _ _ _ (lv_sub hl [] rfl) S hq
  have B_Ar_bars_69_3 : ∀ (v1 : Int32) (v2 : Int32) (v3 : Bool) (H : Heap) (locs : List Loc) (ls : Array Slot), lv_has ls 5 [(0, .ref (a 5)), (1, .int v1), (2, .int v2), (3, .int (bI v3)), (4, .int (3 : Int32))] → St D (wC cI cZ a) A s σ H locs → F = s_Ar_bars_69_3 v1 v2 v3 σ → W p l e ({ frames := 0, cells := 0, slots := 0, locals := 0 } : Room) s m args below meth c H locs 0 0 Q (F0 m 69 ls []) := by
    intro v1 v2 v3 H locs ls hl S hq
    refine lv_iinc (k := 4) (v := (2 : Int32)) hx hb d_Ar_bars_69 hl rfl (by first | rfl | decide) (by decide) rfl (fun ls hl => ?_)
    refine lv_goto (tgt := 3) hx hb d_Ar_bars_72 rfl ?_
    exact B_Ar_bars_3_2 _ _ _ _ _ _ (lv_sub hl [1, 2, 3, 4, 0] rfl) S hq
  have B_Ar_bars_3_3 : ∀ (v1 : Int32) (v2 : Int32) (v3 : Bool) (H : Heap) (locs : List Loc) (ls : Array Slot), lv_has ls 5 [(0, .ref (a 5)), (1, .int v1), (2, .int v2), (3, .int (bI v3)), (4, .int (3 : Int32))] → St D (wC cI cZ a) A s σ H locs → F = s_Ar_bars_3_3 v1 v2 v3 σ → W p l e ({ frames := 0, cells := 0, slots := 0, locals := 0 } : Room) s m args below meth c H locs 0 0 Q (F0 m 3 ls []) := by
    intro v1 v2 v3 H locs ls hl S hq
    refine lv_iload hx hb d_Ar_bars_3 (lv_at hl 4 rfl) ?_
    refine lv_if_lt (tgt := 75) hx hb d_Ar_bars_5 rfl (fun h9 => absurd h9 (by decide)) (fun _ => ?_)
    refine lv_iload_n hx hb d_Ar_bars_8 rfl (lv_at hl 1 rfl) ?_
    refine lv_aload_n hx hb d_Ar_bars_9 rfl (lv_at hl 0 rfl) ?_
    refine g_Ar_9 hx hb hts hown hK S.1 d_Ar_bars_10 ?_
    refine lv_iload hx hb d_Ar_bars_13 (lv_at hl 4 rfl) ?_
    refine ld_C_6 (k := 3) hx hb hK S.1 (vin_dec (by decide)) (by decide) d_Ar_bars_15 ?_
    refine lv_icmp_lt (tgt := 69) hx hb d_Ar_bars_16 rfl (fun h16 => ?_) (fun h16 => ?_)
    · have hq := hq.trans (if_pos h16)
      exact B_Ar_bars_69_3 _ _ _ _ _ _ (lv_sub hl [0, 1, 2, 3, 4] rfl) S hq
    · have hq := hq.trans (if_neg h16)
      refine lv_iload_n hx hb d_Ar_bars_19 rfl (lv_at hl 1 rfl) ?_
      refine lv_aload_n hx hb d_Ar_bars_20 rfl (lv_at hl 0 rfl) ?_
      refine g_Ar_9 hx hb hts hown hK S.1 d_Ar_bars_21 ?_
      refine lv_iload hx hb d_Ar_bars_24 (lv_at hl 4 rfl) ?_
      refine ld_C_6 (k := 3) hx hb hK S.1 (vin_dec (by decide)) (by decide) d_Ar_bars_26 ?_
      refine lv_aload_n hx hb d_Ar_bars_27 rfl (lv_at hl 0 rfl) ?_
      refine g_Ar_15 hx hb hts hown hK S.1 d_Ar_bars_28 ?_
      refine lv_iload hx hb d_Ar_bars_31 (lv_at hl 4 rfl) ?_
      refine ld_C_7 (k := 3) hx hb hK S.1 (vin_dec (by decide)) (by decide) d_Ar_bars_33 ?_
      refine lv_iadd hx hb d_Ar_bars_34 ?_
      refine lv_icmp_ge (tgt := 69) hx hb d_Ar_bars_35 rfl (fun h35 => ?_) (fun h35 => ?_)
      · have hq := hq.trans (if_pos h35)
        exact B_Ar_bars_69_3 _ _ _ _ _ _ (lv_sub hl [0, 1, 2, 3, 4] rfl) S hq
      · have hq := hq.trans (if_neg h35)
        refine lv_aload_n hx hb d_Ar_bars_38 rfl (lv_at hl 0 rfl) ?_
        refine g_Ar_18 hx hb hts hown hK S.1 d_Ar_bars_39 ?_
        refine lv_iload hx hb d_Ar_bars_42 (lv_at hl 4 rfl) ?_
        refine ld_C_8 (k := 3) hx hb hK S.1 (vin_dec (by decide)) (by decide) d_Ar_bars_44 ?_
        refine lv_iload_n hx hb d_Ar_bars_45 rfl (lv_at hl 2 rfl) ?_
        refine lv_icmp_lt (tgt := 63) hx hb d_Ar_bars_46 rfl (fun h46 => ?_) (fun h46 => ?_)
        · have hq := hq.trans (if_pos h46)
          exact B_Ar_bars_63 _ _ _ (lv_sub hl [] rfl) S hq
        · have hq := hq.trans (if_neg h46)
          refine lv_iload_n hx hb d_Ar_bars_49 rfl (lv_at hl 3 rfl) ?_
          refine r_ifeqZ (tgt := 67) hx hb d_Ar_bars_50 rfl (fun h50 => ?_) (fun h50 => ?_)
          · have hq := hq.trans (if_neg h50)
            exact B_Ar_bars_67 _ _ _ (lv_sub hl [] rfl) S hq
          · have hq := hq.trans (if_pos h50)
            refine lv_aload_n hx hb d_Ar_bars_53 rfl (lv_at hl 0 rfl) ?_
            refine g_Ar_21 hx hb hts hown hK S.1 d_Ar_bars_54 ?_
            refine lv_iload hx hb d_Ar_bars_57 (lv_at hl 4 rfl) ?_
            refine ld_C_9 (k := 3) hx hb hK S.1 (vin_dec (by decide)) (by decide) d_Ar_bars_59 ?_
            refine lv_if_eq (tgt := 67) hx hb d_Ar_bars_60 rfl (fun h60 => ?_) (fun h60 => ?_)
            · have hq := hq.trans (if_pos h60)
              exact B_Ar_bars_67 _ _ _ (lv_sub hl [] rfl) S hq
            · have hq := hq.trans (if_neg h60)
              exact B_Ar_bars_63 _ _ _ (lv_sub hl [] rfl) S hq
  refine lv_iconst (v := 3) hx hb d_Ar_bars_0 (by decide) ?_
  refine lv_istore hx hb d_Ar_bars_1 hl (by decide) rfl (fun ls hl => ?_)
  exact B_Ar_bars_3_3 _ _ _ _ _ _ (lv_sub hl [1, 2, 3, 4, 0] rfl) S hq
set_option maxHeartbeats 4000000 in
set_option maxRecDepth 100000 in
theorem c_N_fetchFault (σ : nS) : CtI l D cI cZ (wC cI cZ a) (exC t) y_N_fetchFault b_N_fetchFault 1 { frames := 1, cells := 0, slots := 0, locals := 24 } [.ref (a 0)] σ (s_N_fetchFault σ, σ) := by
  generalize hF : s_N_fetchFault σ = F
  refine metIp (exC_ok t) (by decide) (Nat.le_of_ble_eq_true rfl) (fun p e s m args below meth c A Q ls X S hl ret => ?_)
  have hq := hF.symm
  obtain ⟨hx, hb, hml, hown, hts, hK, hA, hE, hlk, hEo⟩ := id X
  have hl : lv_has ls 1 [(0, .ref (a 0))] := hl
  refine lv_aload_n hx hb d_N_fetchFault_0 rfl (lv_at hl 0 rfl) ?_
  refine g_N_19 hx hb hts hown hK S.1 d_N_fetchFault_1 ?_
  refine lv_aload_n hx hb d_N_fetchFault_4 rfl (lv_at hl 0 rfl) ?_
  refine g_N_9 hx hb hts hown hK S.1 d_N_fetchFault_5 ?_
  refine lv_bipush (v := 15) hx hb d_N_fetchFault_8 (by decide) ?_
  refine ld_C_1 (k := 15) hx hb hK S.1 (vin_dec (by decide)) (by decide) d_N_fetchFault_10 ?_
  refine callVZp X S hl (c_Me_holdsHalf (σ 0 15) _) v_N_211 3 1 ⟨rfl, rfl⟩ (rk_dec (by decide)) rfl rfl (Nat.le_of_ble_eq_true rfl) d_N_fetchFault_11 (fun H locs S => ?_)
  refine r_ifneZ (tgt := 19) hx hb d_N_fetchFault_14 rfl (fun h14 => ?_) (fun h14 => ?_)
  · have hq := hq.trans (if_pos h14)
    refine lv_aload_n hx hb d_N_fetchFault_19 rfl (lv_at hl 0 rfl) ?_
    refine g_N_26 hx hb hts hown hK S.1 d_N_fetchFault_20 ?_
    refine lv_aload_n hx hb d_N_fetchFault_23 rfl (lv_at hl 0 rfl) ?_
    refine g_N_9 hx hb hts hown hK S.1 d_N_fetchFault_24 ?_
    refine lv_bipush (v := 15) hx hb d_N_fetchFault_27 (by decide) ?_
    refine ld_C_1 (k := 15) hx hb hK S.1 (vin_dec (by decide)) (by decide) d_N_fetchFault_29 ?_
    refine lv_iconst (v := 1) hx hb d_N_fetchFault_30 (by decide) ?_
    refine lv_iconst (v := 1) hx hb d_N_fetchFault_31 (by decide) ?_
    refine callVZp X S hl (c_Ar_bars (σ 0 15) (1 : Int32) true _) v_N_214 5 2 ⟨rfl, rfl⟩ (rk_dec (by decide)) rfl rfl (Nat.le_of_ble_eq_true rfl) d_N_fetchFault_32 (fun H locs S => ?_)
    refine r_ifeqZ (tgt := 42) hx hb d_N_fetchFault_35 rfl (fun h35 => ?_) (fun h35 => ?_)
    · have hq := hq.trans (if_neg h35)
      refine lv_iconst (v := 0) hx hb d_N_fetchFault_42 (by decide) ?_
      exact ret _ _ _ _ _ S hq d_N_fetchFault_43
    · have hq := hq.trans (if_pos h35)
      refine lv_iconst (v := 4) hx hb d_N_fetchFault_38 (by decide) ?_
      refine lv_goto (tgt := 43) hx hb d_N_fetchFault_39 rfl ?_
      exact ret _ _ _ _ _ S hq d_N_fetchFault_43
  · have hq := hq.trans (if_neg h14)
    refine lv_iconst (v := 5) hx hb d_N_fetchFault_17 (by decide) ?_
    exact ret _ _ _ _ _ S hq d_N_fetchFault_18
set_option maxHeartbeats 4000000 in
set_option maxRecDepth 100000 in
theorem c_Me_half (v1 : Int32) (σ : nS) : CtI l D cI cZ (wC cI cZ a) (exC t) y_Me_half b_Me_half 2 { frames := 1, cells := 0, slots := 0, locals := 21 } [.ref (a 3), .int v1] σ (s_Me_half v1 σ, σ) := by
  generalize hF : s_Me_half v1 σ = F
  refine metIp (exC_ok t) (by decide) (Nat.le_of_ble_eq_true rfl) (fun p e s m args below meth c A Q ls X S hl ret => ?_)
  have hq := hF.symm
  obtain ⟨hx, hb, hml, hown, hts, hK, hA, hE, hlk, hEo⟩ := id X
  have hl : lv_has ls 2 [(0, .ref (a 3)), (1, .int v1)] := hl
  refine lv_aload_n hx hb d_Me_half_0 rfl (lv_at hl 0 rfl) ?_
  refine lv_iload_n hx hb d_Me_half_1 rfl (lv_at hl 1 rfl) ?_
  refine callVIp X S hl (c_Me_load v1 _) v_Me_15 3 1 ⟨rfl, rfl⟩ (rk_dec (by decide)) rfl rfl (Nat.le_of_ble_eq_true rfl) d_Me_half_2 (fun H locs S => ?_)
  refine lv_bipush (v := 8) hx hb d_Me_half_5 (by decide) ?_
  refine lv_iload_n hx hb d_Me_half_7 rfl (lv_at hl 1 rfl) ?_
  refine lv_iconst (v := 2) hx hb d_Me_half_8 (by decide) ?_
  refine lv_iand hx hb d_Me_half_9 ?_
  refine lv_imul hx hb d_Me_half_10 ?_
  refine r_iushr hx hb d_Me_half_11 ?_
  refine lv_ldc (v := 65535) hx hb hown (hts _ k_5) d_Me_half_12 ?_
  refine lv_iand hx hb d_Me_half_14 ?_
  exact ret _ _ _ _ _ S hq d_Me_half_15
set_option maxHeartbeats 4000000 in
set_option maxRecDepth 100000 in
theorem c_N_fetch (σ : nS) : CtI l D cI cZ (wC cI cZ a) (exC t) y_N_fetch b_N_fetch 2 { frames := 2, cells := 0, slots := 0, locals := 42 } [.ref (a 0)] σ (s_N_fetch σ) := by
  generalize hF : s_N_fetch σ = F
  refine metI (exC_ok t) (by decide) (Nat.le_of_ble_eq_true rfl) (fun p e s m args below meth c A Q ls X S hl ret => ?_)
  have hq := hF.symm
  obtain ⟨hx, hb, hml, hown, hts, hK, hA, hE, hlk, hEo⟩ := id X
  have hl : lv_has ls 2 [(0, .ref (a 0))] := hl
  refine lv_aload_n hx hb d_N_fetch_0 rfl (lv_at hl 0 rfl) ?_
  refine g_N_9 hx hb hts hown hK S.1 d_N_fetch_1 ?_
  refine lv_bipush (v := 15) hx hb d_N_fetch_4 (by decide) ?_
  refine ld_C_1 (k := 15) hx hb hK S.1 (vin_dec (by decide)) (by decide) d_N_fetch_6 ?_
  refine lv_istore_n hx hb d_N_fetch_7 rfl hl (by decide) rfl (fun ls hl => ?_)
  refine lv_aload_n hx hb d_N_fetch_8 rfl (lv_at hl 1 rfl) ?_
  refine g_N_9 hx hb hts hown hK S.1 d_N_fetch_9 ?_
  refine lv_bipush (v := 15) hx hb d_N_fetch_12 (by decide) ?_
  refine lv_iload_n hx hb d_N_fetch_14 rfl (lv_at hl 0 rfl) ?_
  refine lv_iconst (v := 2) hx hb d_N_fetch_15 (by decide) ?_
  refine lv_iadd hx hb d_N_fetch_16 ?_
  refine st_C_1 (k := 15) hx hb hK S (vin_dec (by decide)) (by decide) d_N_fetch_17 (fun H locs S => ?_)
  refine lv_aload_n hx hb d_N_fetch_18 rfl (lv_at hl 1 rfl) ?_
  refine g_N_19 hx hb hts hown hK S.1 d_N_fetch_19 ?_
  refine lv_iload_n hx hb d_N_fetch_22 rfl (lv_at hl 0 rfl) ?_
  refine callVIp X S hl (c_Me_half (σ 0 15) _) v_N_218 3 1 ⟨rfl, rfl⟩ (rk_dec (by decide)) rfl rfl (Nat.le_of_ble_eq_true rfl) d_N_fetch_23 (fun H locs S => ?_)
  exact ret _ _ _ _ _ _ S hq d_N_fetch_26
set_option maxHeartbeats 4000000 in
set_option maxRecDepth 100000 in
theorem c_Fl_ofResult (v1 : Int32) (σ : nS) : CtV l D cI cZ (wC cI cZ a) (exC t) y_Fl_ofResult b_Fl_ofResult 2 { frames := 0, cells := 0, slots := 0, locals := 0 } [.ref (a 15), .int v1] σ (s_Fl_ofResult v1 σ) := by
  generalize hF : s_Fl_ofResult v1 σ = F
  refine metV (exC_ok t) (by decide) (Nat.le_of_ble_eq_true rfl) (fun p e s m args below meth c A Q ls X S hl ret => ?_)
  have hq := hF.symm
  obtain ⟨hx, hb, hml, hown, hts, hK, hA, hE, hlk, hEo⟩ := id X
  have hl : lv_has ls 2 [(0, .ref (a 15)), (1, .int v1)] := hl
  have B_Fl_ofResult_23 : ∀ (k1 : Bool) (σ : nS) (H : Heap) (locs : List Loc) (ls : Array Slot), lv_has ls 2 [] → St D (wC cI cZ a) A s σ H locs → F = s_Fl_ofResult_23 k1 σ → W p l e ({ frames := 0, cells := 0, slots := 0, locals := 0 } : Room) s m args below meth c H locs 0 0 Q (F0 m 23 ls [.int (bI k1), .ref (a 15)]) := by
    intro k1 σ H locs ls hl S hq
    refine p_Fl_13 (b := k1) hx hb hts hown hK S d_Fl_ofResult_23 (fun H locs S => ?_)
    exact ret _ _ _ _ _ S hq d_Fl_ofResult_26
  have B_Fl_ofResult_10 : ∀ (v1 : Int32) (k1 : Bool) (σ : nS) (H : Heap) (locs : List Loc) (ls : Array Slot), lv_has ls 2 [(0, .ref (a 15)), (1, .int v1)] → St D (wC cI cZ a) A s σ H locs → F = s_Fl_ofResult_10 v1 k1 σ → W p l e ({ frames := 0, cells := 0, slots := 0, locals := 0 } : Room) s m args below meth c H locs 0 0 Q (F0 m 10 ls [.int (bI k1), .ref (a 15)]) := by
    intro v1 k1 σ H locs ls hl S hq
    refine p_Fl_7 (b := k1) hx hb hts hown hK S d_Fl_ofResult_10 (fun H locs S => ?_)
    refine lv_aload_n hx hb d_Fl_ofResult_13 rfl (lv_at hl 0 rfl) ?_
    refine lv_iload_n hx hb d_Fl_ofResult_14 rfl (lv_at hl 1 rfl) ?_
    refine lv_if_ne (tgt := 22) hx hb d_Fl_ofResult_15 rfl (fun h15 => ?_) (fun h15 => ?_)
    · have hq := hq.trans (if_neg h15)
      refine lv_iconst (v := 0) hx hb d_Fl_ofResult_22 (by decide) ?_
      exact B_Fl_ofResult_23 false _ _ _ _ (lv_sub hl [] rfl) S hq
    · have hq := hq.trans (if_pos h15)
      refine lv_iconst (v := 1) hx hb d_Fl_ofResult_18 (by decide) ?_
      refine lv_goto (tgt := 23) hx hb d_Fl_ofResult_19 rfl ?_
      exact B_Fl_ofResult_23 true _ _ _ _ (lv_sub hl [] rfl) S hq
  refine lv_aload_n hx hb d_Fl_ofResult_0 rfl (lv_at hl 0 rfl) ?_
  refine lv_iload_n hx hb d_Fl_ofResult_1 rfl (lv_at hl 1 rfl) ?_
  refine lv_if_ge (tgt := 9) hx hb d_Fl_ofResult_2 rfl (fun h2 => ?_) (fun h2 => ?_)
  · have hq := hq.trans (if_pos h2)
    refine lv_iconst (v := 0) hx hb d_Fl_ofResult_9 (by decide) ?_
    exact B_Fl_ofResult_10 _ false _ _ _ _ (lv_sub hl [0, 1] rfl) S hq
  · have hq := hq.trans (if_neg h2)
    refine lv_iconst (v := 1) hx hb d_Fl_ofResult_5 (by decide) ?_
    refine lv_goto (tgt := 10) hx hb d_Fl_ofResult_6 rfl ?_
    exact B_Fl_ofResult_10 _ true _ _ _ _ (lv_sub hl [0, 1] rfl) S hq
set_option maxHeartbeats 4000000 in
set_option maxRecDepth 100000 in
theorem c_N_shift (v1 : Int32) (σ : nS) : CtI l D cI cZ (wC cI cZ a) (exC t) y_N_shift b_N_shift 6 { frames := 1, cells := 0, slots := 0, locals := 21 } [.ref (a 0), .int v1] σ (s_N_shift v1 σ) := by
  generalize hF : s_N_shift v1 σ = F
  refine metI (exC_ok t) (by decide) (Nat.le_of_ble_eq_true rfl) (fun p e s m args below meth c A Q ls X S hl ret => ?_)
  have hq := hF.symm
  obtain ⟨hx, hb, hml, hown, hts, hK, hA, hE, hlk, hEo⟩ := id X
  have hl : lv_has ls 6 [(0, .ref (a 0)), (1, .int v1)] := hl
  have B_N_shift_107 : ∀ (v2 : Int32) (k1 : Int32) (k2 : Int32) (σ : nS) (H : Heap) (locs : List Loc) (ls : Array Slot), (vp_in k1 16) → (vp_in v2 16) → lv_has ls 6 [(0, .ref (a 0)), (2, .int v2)] → St D (wC cI cZ a) A s σ H locs → F = s_N_shift_107 v2 k1 k2 σ → W p l e ({ frames := 1, cells := 0, slots := 0, locals := 21 } : Room) s m args below meth c H locs 0 0 Q (F0 m 107 ls [.int k2, .int k1, .ref (a 1)]) := by
    intro v2 k1 k2 σ H locs ls qk1_16 qv2_16 hl S hq
    refine st_C_1 (k := (k1).toNatClampNeg) hx hb hK S qk1_16 rfl d_N_shift_107 (fun H locs S => ?_)
    refine lv_aload_n hx hb d_N_shift_108 rfl (lv_at hl 0 rfl) ?_
    refine g_N_40 hx hb hts hown hK S.1 d_N_shift_109 ?_
    refine lv_aload_n hx hb d_N_shift_112 rfl (lv_at hl 0 rfl) ?_
    refine g_N_9 hx hb hts hown hK S.1 d_N_shift_113 ?_
    refine lv_iload_n hx hb d_N_shift_116 rfl (lv_at hl 1 rfl) ?_
    refine ld_C_1 (k := (v2).toNatClampNeg) hx hb hK S.1 qv2_16 rfl d_N_shift_117 ?_
    refine callVV X S hl (c_Fl_ofResult ((up2 σ 0 (k1).toNatClampNeg k2) 0 (v2).toNatClampNeg) _) v_N_255 15 4 ⟨rfl, rfl⟩ (rk_dec (by decide)) rfl rfl (Nat.le_of_ble_eq_true rfl) d_N_shift_118 (fun σ1 H locs e1 S => ?_)
    have hq := hq.trans (ap1_eq e1)
    refine lv_iconst (v := 0) hx hb d_N_shift_121 (by decide) ?_
    exact ret _ _ _ _ _ _ S hq d_N_shift_122
  have B_N_shift_73 : ∀ (v2 : Int32) (v3 : Int32) (v4 : Int32) (v5 : Int32) (σ : nS) (H : Heap) (locs : List Loc) (ls : Array Slot), (vp_in v2 16) → lv_has ls 6 [(0, .ref (a 0)), (2, .int v2), (3, .int v3), (4, .int v4), (5, .int v5)] → St D (wC cI cZ a) A s σ H locs → F = s_N_shift_73 v2 v3 v4 v5 σ → W p l e ({ frames := 1, cells := 0, slots := 0, locals := 21 } : Room) s m args below meth c H locs 0 0 Q (F0 m 73 ls []) := by
    intro v2 v3 v4 v5 σ H locs ls qv2_16 hl S hq
    refine lv_aload_n hx hb d_N_shift_73 rfl (lv_at hl 0 rfl) ?_
    refine g_N_9 hx hb hts hown hK S.1 d_N_shift_74 ?_
    refine lv_iload_n hx hb d_N_shift_77 rfl (lv_at hl 1 rfl) ?_
    refine lv_iload hx hb d_N_shift_78 (lv_at hl 4 rfl) ?_
    refine lv_if_ne (tgt := 90) hx hb d_N_shift_80 rfl (fun h80 => ?_) (fun h80 => ?_)
    · have hq := hq.trans (if_neg h80)
      refine lv_iload hx hb d_N_shift_90 (lv_at hl 4 rfl) ?_
      refine lv_iconst (v := 1) hx hb d_N_shift_92 (by decide) ?_
      refine lv_icmp_ne (tgt := 103) hx hb d_N_shift_93 rfl (fun h93 => ?_) (fun h93 => ?_)
      · have hq := hq.trans (if_neg h93)
        refine lv_iload_n hx hb d_N_shift_103 rfl (lv_at hl 2 rfl) ?_
        refine lv_iload hx hb d_N_shift_104 (lv_at hl 3 rfl) ?_
        refine lv_ishr hx hb d_N_shift_106 ?_
        exact B_N_shift_107 _ _ _ _ _ _ _ qv2_16 qv2_16 (lv_sub hl [0, 1] rfl) S hq
      · have hq := hq.trans (if_pos h93)
        refine lv_iload_n hx hb d_N_shift_96 rfl (lv_at hl 2 rfl) ?_
        refine lv_iload hx hb d_N_shift_97 (lv_at hl 3 rfl) ?_
        refine r_iushr hx hb d_N_shift_99 ?_
        refine lv_goto (tgt := 107) hx hb d_N_shift_100 rfl ?_
        exact B_N_shift_107 _ _ _ _ _ _ _ qv2_16 qv2_16 (lv_sub hl [0, 1] rfl) S hq
    · have hq := hq.trans (if_pos h80)
      refine lv_iload_n hx hb d_N_shift_83 rfl (lv_at hl 2 rfl) ?_
      refine lv_iload hx hb d_N_shift_84 (lv_at hl 3 rfl) ?_
      refine lv_ishl hx hb d_N_shift_86 ?_
      refine lv_goto (tgt := 107) hx hb d_N_shift_87 rfl ?_
      exact B_N_shift_107 _ _ _ _ _ _ _ qv2_16 qv2_16 (lv_sub hl [0, 1] rfl) S hq
  have B_N_shift_70 : ∀ (v2 : Int32) (v3 : Int32) (v4 : Int32) (v5 : Int32) (k1 : Bool) (σ : nS) (H : Heap) (locs : List Loc) (ls : Array Slot), (vp_in v2 16) → lv_has ls 6 [(0, .ref (a 0)), (2, .int v2), (3, .int v3), (4, .int v4), (5, .int v5)] → St D (wC cI cZ a) A s σ H locs → F = s_N_shift_70 v2 v3 v4 v5 k1 σ → W p l e ({ frames := 1, cells := 0, slots := 0, locals := 21 } : Room) s m args below meth c H locs 0 0 Q (F0 m 70 ls [.int (bI k1), .ref (a 15)]) := by
    intro v2 v3 v4 v5 k1 σ H locs ls qv2_16 hl S hq
    refine p_N_252 (b := k1) hx hb hts hown hK S d_N_shift_70 (fun H locs S => ?_)
    exact B_N_shift_73 _ _ _ _ _ _ _ _ qv2_16 (lv_sub hl [0, 1, 2, 3, 4] rfl) S hq
  have B_N_shift_59 : ∀ (v2 : Int32) (v3 : Int32) (v4 : Int32) (v5 : Int32) (k1 : Int32) (k2 : Int32) (σ : nS) (H : Heap) (locs : List Loc) (ls : Array Slot), (vp_in v2 16) → lv_has ls 6 [(0, .ref (a 0)), (2, .int v2), (3, .int v3), (4, .int v4), (5, .int v5)] → St D (wC cI cZ a) A s σ H locs → F = s_N_shift_59 v2 v3 v4 v5 k1 k2 σ → W p l e ({ frames := 1, cells := 0, slots := 0, locals := 21 } : Room) s m args below meth c H locs 0 0 Q (F0 m 59 ls [.int k2, .int k1, .ref (a 15)]) := by
    intro v2 v3 v4 v5 k1 k2 σ H locs ls qv2_16 hl S hq
    refine r_iushr hx hb d_N_shift_59 ?_
    refine lv_iconst (v := 1) hx hb d_N_shift_60 (by decide) ?_
    refine lv_iand hx hb d_N_shift_61 ?_
    refine lv_if_eq (tgt := 69) hx hb d_N_shift_62 rfl (fun h62 => ?_) (fun h62 => ?_)
    · have hq := hq.trans (if_pos h62)
      refine lv_iconst (v := 0) hx hb d_N_shift_69 (by decide) ?_
      exact B_N_shift_70 _ _ _ _ false _ _ _ _ qv2_16 (lv_sub hl [0, 1, 2, 3, 4] rfl) S hq
    · have hq := hq.trans (if_neg h62)
      refine lv_iconst (v := 1) hx hb d_N_shift_65 (by decide) ?_
      refine lv_goto (tgt := 70) hx hb d_N_shift_66 rfl ?_
      exact B_N_shift_70 _ _ _ _ true _ _ _ _ qv2_16 (lv_sub hl [0, 1, 2, 3, 4] rfl) S hq
  refine lv_iload_n hx hb d_N_shift_0 rfl (lv_at hl 1 rfl) ?_
  refine lv_bipush (v := 7) hx hb d_N_shift_1 (by decide) ?_
  refine lv_iand hx hb d_N_shift_3 ?_
  refine lv_istore_n hx hb d_N_shift_4 rfl hl (by decide) rfl (fun ls hl => ?_)
  refine lv_aload_n hx hb d_N_shift_5 rfl (lv_at hl 1 rfl) ?_
  refine g_N_9 hx hb hts hown hK S.1 d_N_shift_6 ?_
  refine lv_iload_n hx hb d_N_shift_9 rfl (lv_at hl 2 rfl) ?_
  refine lv_iconst (v := 3) hx hb d_N_shift_10 (by decide) ?_
  refine lv_ishr hx hb d_N_shift_11 ?_
  refine lv_bipush (v := 7) hx hb d_N_shift_12 (by decide) ?_
  refine lv_iand hx hb d_N_shift_14 ?_
  refine ld_C_1 (k := (((v1 >>> ((3 : Int32) &&& 31)) &&& (7 : Int32))).toNatClampNeg) hx hb hK S.1 (vin_and7_16 _) rfl d_N_shift_15 ?_
  refine lv_istore_n hx hb d_N_shift_16 rfl hl (by decide) rfl (fun ls hl => ?_)
  refine lv_iload_n hx hb d_N_shift_17 rfl (lv_at hl 3 rfl) ?_
  refine lv_bipush (v := 6) hx hb d_N_shift_18 (by decide) ?_
  refine lv_ishr hx hb d_N_shift_20 ?_
  refine lv_bipush (v := 31) hx hb d_N_shift_21 (by decide) ?_
  refine lv_iand hx hb d_N_shift_23 ?_
  refine lv_istore hx hb d_N_shift_24 hl (by decide) rfl (fun ls hl => ?_)
  refine lv_iload_n hx hb d_N_shift_26 rfl (lv_at hl 4 rfl) ?_
  refine lv_bipush (v := 11) hx hb d_N_shift_27 (by decide) ?_
  refine lv_ishr hx hb d_N_shift_29 ?_
  refine lv_istore hx hb d_N_shift_30 hl (by decide) rfl (fun ls hl => ?_)
  refine lv_iload hx hb d_N_shift_32 (lv_at hl 1 rfl) ?_
  refine lv_if_eq (tgt := 73) hx hb d_N_shift_34 rfl (fun h34 => ?_) (fun h34 => ?_)
  · have hq := hq.trans (if_pos h34)
    exact B_N_shift_73 _ _ _ _ _ _ _ _ (vin_and7_16 _) (lv_sub hl [4, 3, 2, 1, 0] rfl) S hq
  · have hq := hq.trans (if_neg h34)
    refine lv_aload_n hx hb d_N_shift_37 rfl (lv_at hl 4 rfl) ?_
    refine g_N_40 hx hb hts hown hK S.1 d_N_shift_38 ?_
    refine lv_iload_n hx hb d_N_shift_41 rfl (lv_at hl 2 rfl) ?_
    refine lv_iload hx hb d_N_shift_42 (lv_at hl 0 rfl) ?_
    refine lv_if_ne (tgt := 55) hx hb d_N_shift_44 rfl (fun h44 => ?_) (fun h44 => ?_)
    · have hq := hq.trans (if_neg h44)
      refine lv_iload hx hb d_N_shift_55 (lv_at hl 1 rfl) ?_
      refine lv_iconst (v := 1) hx hb d_N_shift_57 (by decide) ?_
      refine lv_isub hx hb d_N_shift_58 ?_
      exact B_N_shift_59 _ _ _ _ _ _ _ _ _ _ (vin_and7_16 _) (lv_sub hl [4, 3, 2, 1, 0] rfl) S hq
    · have hq := hq.trans (if_pos h44)
      refine lv_bipush (v := 32) hx hb d_N_shift_47 (by decide) ?_
      refine lv_iload hx hb d_N_shift_49 (lv_at hl 1 rfl) ?_
      refine lv_isub hx hb d_N_shift_51 ?_
      refine lv_goto (tgt := 59) hx hb d_N_shift_52 rfl ?_
      exact B_N_shift_59 _ _ _ _ _ _ _ _ _ _ (vin_and7_16 _) (lv_sub hl [4, 3, 2, 1, 0] rfl) S hq
set_option maxHeartbeats 4000000 in
set_option maxRecDepth 100000 in
theorem c_Fl_sum (v1 : Int32) (v2 : Int32) (v3 : Int32) (σ : nS) : CtI l D cI cZ (wC cI cZ a) (exC t) y_Fl_sum b_Fl_sum 9 { frames := 1, cells := 0, slots := 0, locals := 21 } [.ref (a 15), .int v1, .int v2, .int v3] σ (s_Fl_sum v1 v2 v3 σ) := by
  generalize hF : s_Fl_sum v1 v2 v3 σ = F
  refine metI (exC_ok t) (by decide) (Nat.le_of_ble_eq_true rfl) (fun p e s m args below meth c A Q ls X S hl ret => ?_)
  have hq := hF.symm
  obtain ⟨hx, hb, hml, hown, hts, hK, hA, hE, hlk, hEo⟩ := id X
  have hl : lv_has ls 9 [(0, .ref (a 15)), (1, .int v1), (2, .int v2), (3, .int v3)] := hl
  have B_Fl_sum_67 : ∀ (v8 : Int32) (k1 : Bool) (σ : nS) (H : Heap) (locs : List Loc) (ls : Array Slot), lv_has ls 9 [(0, .ref (a 15)), (8, .int v8)] → St D (wC cI cZ a) A s σ H locs → F = s_Fl_sum_67 v8 k1 σ → W p l e ({ frames := 1, cells := 0, slots := 0, locals := 21 } : Room) s m args below meth c H locs 0 0 Q (F0 m 67 ls [.int (bI k1), .ref (a 15)]) := by
    intro v8 k1 σ H locs ls hl S hq
    refine p_Fl_21 (b := k1) hx hb hts hown hK S d_Fl_sum_67 (fun H locs S => ?_)
    refine lv_aload_n hx hb d_Fl_sum_70 rfl (lv_at hl 0 rfl) ?_
    refine lv_iload hx hb d_Fl_sum_71 (lv_at hl 1 rfl) ?_
    refine callVV X S hl (c_Fl_ofResult v8 _) v_Fl_24 15 4 ⟨rfl, rfl⟩ (rk_dec (by decide)) rfl rfl (Nat.le_of_ble_eq_true rfl) d_Fl_sum_73 (fun σ1 H locs e1 S => ?_)
    have hq := hq.trans (ap1_eq e1)
    refine lv_iload hx hb d_Fl_sum_76 (lv_at hl 1 rfl) ?_
    exact ret _ _ _ _ _ _ S hq d_Fl_sum_78
  have B_Fl_sum_49 : ∀ (v4 : Int64) (v8 : Int32) (k1 : Bool) (σ : nS) (H : Heap) (locs : List Loc) (ls : Array Slot), lv_has ls 9 [(0, .ref (a 15)), (4, .long v4), (8, .int v8)] → St D (wC cI cZ a) A s σ H locs → F = s_Fl_sum_49 v4 v8 k1 σ → W p l e ({ frames := 1, cells := 0, slots := 0, locals := 21 } : Room) s m args below meth c H locs 0 0 Q (F0 m 49 ls [.int (bI k1), .ref (a 15)]) := by
    intro v4 v8 k1 σ H locs ls hl S hq
    refine p_Fl_16 (b := k1) hx hb hts hown hK S d_Fl_sum_49 (fun H locs S => ?_)
    refine lv_aload_n hx hb d_Fl_sum_52 rfl (lv_at hl 0 rfl) ?_
    refine lv_lload hx hb d_Fl_sum_53 (lv_at hl 1 rfl) ?_
    refine lv_iload hx hb d_Fl_sum_55 (lv_at hl 2 rfl) ?_
    refine lv_i2l hx hb d_Fl_sum_57 rfl ?_
    refine W.lcmp hx hb d_Fl_sum_58 ?_
    refine lv_if_eq (tgt := 66) hx hb d_Fl_sum_59 rfl (fun h59 => ?_) (fun h59 => ?_)
    · have hq := hq.trans (if_pos h59)
      refine lv_iconst (v := 0) hx hb d_Fl_sum_66 (by decide) ?_
      exact B_Fl_sum_67 _ false _ _ _ _ (lv_sub hl [0, 2] rfl) S hq
    · have hq := hq.trans (if_neg h59)
      refine lv_iconst (v := 1) hx hb d_Fl_sum_62 (by decide) ?_
      refine lv_goto (tgt := 67) hx hb d_Fl_sum_63 rfl ?_
      exact B_Fl_sum_67 _ true _ _ _ _ (lv_sub hl [0, 2] rfl) S hq
  refine lv_iload_n hx hb d_Fl_sum_0 rfl (lv_at hl 1 rfl) ?_
  refine lv_i2l hx hb d_Fl_sum_1 rfl ?_
  refine lv_iload_n hx hb d_Fl_sum_2 rfl (lv_at hl 2 rfl) ?_
  refine lv_i2l hx hb d_Fl_sum_3 rfl ?_
  refine lv_ladd hx hb d_Fl_sum_4 ?_
  refine lv_iload_n hx hb d_Fl_sum_5 rfl (lv_at hl 3 rfl) ?_
  refine lv_i2l hx hb d_Fl_sum_6 rfl ?_
  refine lv_ladd hx hb d_Fl_sum_7 ?_
  refine lv_lstore hx hb d_Fl_sum_8 hl (by decide) rfl (fun ls hl => ?_)
  refine lv_iload_n hx hb d_Fl_sum_10 rfl (lv_at hl 2 rfl) ?_
  refine lv_i2l hx hb d_Fl_sum_11 rfl ?_
  refine lv_ldc2 (v := 4294967295) hx hb hown (hts _ k_6) d_Fl_sum_12 ?_
  refine lv_land hx hb d_Fl_sum_15 ?_
  refine lv_iload_n hx hb d_Fl_sum_16 rfl (lv_at hl 3 rfl) ?_
  refine lv_i2l hx hb d_Fl_sum_17 rfl ?_
  refine lv_ldc2 (v := 4294967295) hx hb hown (hts _ k_6) d_Fl_sum_18 ?_
  refine lv_land hx hb d_Fl_sum_21 ?_
  refine lv_ladd hx hb d_Fl_sum_22 ?_
  refine lv_iload_n hx hb d_Fl_sum_23 rfl (lv_at hl 4 rfl) ?_
  refine lv_i2l hx hb d_Fl_sum_24 rfl ?_
  refine lv_ladd hx hb d_Fl_sum_25 ?_
  refine lv_lstore hx hb d_Fl_sum_26 hl (by decide) rfl (fun ls hl => ?_)
  refine lv_lload hx hb d_Fl_sum_28 (lv_at hl 1 rfl) ?_
  refine lv_l2i hx hb d_Fl_sum_30 rfl ?_
  refine lv_istore hx hb d_Fl_sum_31 hl (by decide) rfl (fun ls hl => ?_)
  refine lv_aload_n hx hb d_Fl_sum_33 rfl (lv_at hl 3 rfl) ?_
  refine lv_lload hx hb d_Fl_sum_34 (lv_at hl 1 rfl) ?_
  refine lv_bipush (v := 32) hx hb d_Fl_sum_36 (by decide) ?_
  refine r_lushr hx hb d_Fl_sum_38 ?_
  refine lv_lconst (v := 0) hx hb d_Fl_sum_39 (by decide) ?_
  refine W.lcmp hx hb d_Fl_sum_40 ?_
  refine lv_if_eq (tgt := 48) hx hb d_Fl_sum_41 rfl (fun h41 => ?_) (fun h41 => ?_)
  · have hq := hq.trans (if_pos h41)
    refine lv_iconst (v := 0) hx hb d_Fl_sum_48 (by decide) ?_
    exact B_Fl_sum_49 _ _ false _ _ _ _ (lv_sub hl [3, 2, 0] rfl) S hq
  · have hq := hq.trans (if_neg h41)
    refine lv_iconst (v := 1) hx hb d_Fl_sum_44 (by decide) ?_
    refine lv_goto (tgt := 49) hx hb d_Fl_sum_45 rfl ?_
    exact B_Fl_sum_49 _ _ true _ _ _ _ (lv_sub hl [3, 2, 0] rfl) S hq
set_option maxHeartbeats 4000000 in
set_option maxRecDepth 100000 in
theorem c_Fl_difference (v1 : Int32) (v2 : Int32) (σ : nS) : CtI l D cI cZ (wC cI cZ a) (exC t) y_Fl_difference b_Fl_difference 3 { frames := 2, cells := 0, slots := 0, locals := 49 } [.ref (a 15), .int v1, .int v2] σ (s_Fl_difference v1 v2 σ) := by
  generalize hF : s_Fl_difference v1 v2 σ = F
  refine metI (exC_ok t) (by decide) (Nat.le_of_ble_eq_true rfl) (fun p e s m args below meth c A Q ls X S hl ret => ?_)
  have hq := hF.symm
  obtain ⟨hx, hb, hml, hown, hts, hK, hA, hE, hlk, hEo⟩ := id X
  have hl : lv_has ls 3 [(0, .ref (a 15)), (1, .int v1), (2, .int v2)] := hl
  refine lv_aload_n hx hb d_Fl_difference_0 rfl (lv_at hl 0 rfl) ?_
  refine lv_iload_n hx hb d_Fl_difference_1 rfl (lv_at hl 1 rfl) ?_
  refine lv_iload_n hx hb d_Fl_difference_2 rfl (lv_at hl 2 rfl) ?_
  refine lv_iconst (v := -1) hx hb d_Fl_difference_3 (by decide) ?_
  refine lv_ixor hx hb d_Fl_difference_4 ?_
  refine lv_iconst (v := 1) hx hb d_Fl_difference_5 (by decide) ?_
  refine callVI X S hl (c_Fl_sum v1 (v2 ^^^ (-1 : Int32)) (1 : Int32) _) v_Fl_28 15 4 ⟨rfl, rfl⟩ (rk_dec (by decide)) rfl rfl (Nat.le_of_ble_eq_true rfl) d_Fl_difference_6 (fun r1 σ1 H locs e1 S => ?_)
  have hq := hq.trans (ap2_eq e1)
  exact ret _ _ _ _ _ _ S hq d_Fl_difference_9
set_option maxHeartbeats 4000000 in
set_option maxRecDepth 100000 in
theorem c_N_addThree (v1 : Int32) (σ : nS) : CtI l D cI cZ (wC cI cZ a) (exC t) y_N_addThree b_N_addThree 5 { frames := 3, cells := 0, slots := 0, locals := 71 } [.ref (a 0), .int v1] σ (s_N_addThree v1 σ) := by
  generalize hF : s_N_addThree v1 σ = F
  refine metI (exC_ok t) (by decide) (Nat.le_of_ble_eq_true rfl) (fun p e s m args below meth c A Q ls X S hl ret => ?_)
  have hq := hF.symm
  obtain ⟨hx, hb, hml, hown, hts, hK, hA, hE, hlk, hEo⟩ := id X
  have hl : lv_has ls 5 [(0, .ref (a 0)), (1, .int v1)] := hl
  refine lv_iload_n hx hb d_N_addThree_0 rfl (lv_at hl 1 rfl) ?_
  refine lv_bipush (v := 7) hx hb d_N_addThree_1 (by decide) ?_
  refine lv_iand hx hb d_N_addThree_3 ?_
  refine lv_istore_n hx hb d_N_addThree_4 rfl hl (by decide) rfl (fun ls hl => ?_)
  refine lv_aload_n hx hb d_N_addThree_5 rfl (lv_at hl 1 rfl) ?_
  refine g_N_9 hx hb hts hown hK S.1 d_N_addThree_6 ?_
  refine lv_iload_n hx hb d_N_addThree_9 rfl (lv_at hl 2 rfl) ?_
  refine lv_iconst (v := 3) hx hb d_N_addThree_10 (by decide) ?_
  refine lv_ishr hx hb d_N_addThree_11 ?_
  refine lv_bipush (v := 7) hx hb d_N_addThree_12 (by decide) ?_
  refine lv_iand hx hb d_N_addThree_14 ?_
  refine ld_C_1 (k := (((v1 >>> ((3 : Int32) &&& 31)) &&& (7 : Int32))).toNatClampNeg) hx hb hK S.1 (vin_and7_16 _) rfl d_N_addThree_15 ?_
  refine lv_istore_n hx hb d_N_addThree_16 rfl hl (by decide) rfl (fun ls hl => ?_)
  refine lv_aload_n hx hb d_N_addThree_17 rfl (lv_at hl 2 rfl) ?_
  refine g_N_9 hx hb hts hown hK S.1 d_N_addThree_18 ?_
  refine lv_iload_n hx hb d_N_addThree_21 rfl (lv_at hl 3 rfl) ?_
  refine lv_bipush (v := 6) hx hb d_N_addThree_22 (by decide) ?_
  refine lv_ishr hx hb d_N_addThree_24 ?_
  refine lv_bipush (v := 7) hx hb d_N_addThree_25 (by decide) ?_
  refine lv_iand hx hb d_N_addThree_27 ?_
  refine ld_C_1 (k := (((v1 >>> ((6 : Int32) &&& 31)) &&& (7 : Int32))).toNatClampNeg) hx hb hK S.1 (vin_and7_16 _) rfl d_N_addThree_28 ?_
  refine lv_istore hx hb d_N_addThree_29 hl (by decide) rfl (fun ls hl => ?_)
  refine lv_iload_n hx hb d_N_addThree_31 rfl (lv_at hl 4 rfl) ?_
  refine lv_bipush (v := 9) hx hb d_N_addThree_32 (by decide) ?_
  refine lv_ishr hx hb d_N_addThree_34 ?_
  refine lv_iconst (v := 3) hx hb d_N_addThree_35 (by decide) ?_
  refine lv_iand hx hb d_N_addThree_36 ?_
  by_cases h37_0 : ((v1 >>> ((9 : Int32) &&& 31)) &&& (3 : Int32)) = (0 : Int32)
  · have hq := hq.trans (if_pos h37_0)
    refine lv_lookup (off := 27) (tgt := 64) hx hb d_N_addThree_37 (by decide) (by rw [h37_0]; decide) rfl ?_
    refine lv_aload_n hx hb d_N_addThree_64 rfl (lv_at hl 3 rfl) ?_
    refine g_N_9 hx hb hts hown hK S.1 d_N_addThree_65 ?_
    refine lv_iload_n hx hb d_N_addThree_68 rfl (lv_at hl 2 rfl) ?_
    refine lv_aload_n hx hb d_N_addThree_69 rfl (lv_at hl 3 rfl) ?_
    refine g_N_40 hx hb hts hown hK S.1 d_N_addThree_70 ?_
    refine lv_iload_n hx hb d_N_addThree_73 rfl (lv_at hl 1 rfl) ?_
    refine lv_iload hx hb d_N_addThree_74 (lv_at hl 0 rfl) ?_
    refine lv_iconst (v := 0) hx hb d_N_addThree_76 (by decide) ?_
    refine callVI X S hl (c_Fl_sum (σ 0 (((v1 >>> ((3 : Int32) &&& 31)) &&& (7 : Int32))).toNatClampNeg) (σ 0 (((v1 >>> ((6 : Int32) &&& 31)) &&& (7 : Int32))).toNatClampNeg) (0 : Int32) _) v_N_258 15 4 ⟨rfl, rfl⟩ (rk_dec (by decide)) rfl rfl (Nat.le_of_ble_eq_true rfl) d_N_addThree_77 (fun r1 σ1 H locs e1 S => ?_)
    have hq := hq.trans (ap2_eq e1)
    refine st_C_1 (k := ((v1 &&& (7 : Int32))).toNatClampNeg) hx hb hK S (vin_and7_16 _) rfl d_N_addThree_80 (fun H locs S => ?_)
    refine lv_iconst (v := 0) hx hb d_N_addThree_81 (by decide) ?_
    exact ret _ _ _ _ _ _ S hq d_N_addThree_82
  · have hq := hq.trans (if_neg h37_0)
    by_cases h37_1 : ((v1 >>> ((9 : Int32) &&& 31)) &&& (3 : Int32)) = (1 : Int32)
    · have hq := hq.trans (if_pos h37_1)
      refine lv_lookup (off := 46) (tgt := 83) hx hb d_N_addThree_37 (by decide) (by rw [h37_1]; decide) rfl ?_
      refine lv_aload_n hx hb d_N_addThree_83 rfl (lv_at hl 3 rfl) ?_
      refine g_N_9 hx hb hts hown hK S.1 d_N_addThree_84 ?_
      refine lv_iload_n hx hb d_N_addThree_87 rfl (lv_at hl 2 rfl) ?_
      refine lv_aload_n hx hb d_N_addThree_88 rfl (lv_at hl 3 rfl) ?_
      refine g_N_40 hx hb hts hown hK S.1 d_N_addThree_89 ?_
      refine lv_iload_n hx hb d_N_addThree_92 rfl (lv_at hl 1 rfl) ?_
      refine lv_iload hx hb d_N_addThree_93 (lv_at hl 0 rfl) ?_
      refine callVI X S hl (c_Fl_difference (σ 0 (((v1 >>> ((3 : Int32) &&& 31)) &&& (7 : Int32))).toNatClampNeg) (σ 0 (((v1 >>> ((6 : Int32) &&& 31)) &&& (7 : Int32))).toNatClampNeg) _) v_N_261 15 4 ⟨rfl, rfl⟩ (rk_dec (by decide)) rfl rfl (Nat.le_of_ble_eq_true rfl) d_N_addThree_95 (fun r1 σ1 H locs e1 S => ?_)
      have hq := hq.trans (ap2_eq e1)
      refine st_C_1 (k := ((v1 &&& (7 : Int32))).toNatClampNeg) hx hb hK S (vin_and7_16 _) rfl d_N_addThree_98 (fun H locs S => ?_)
      refine lv_iconst (v := 0) hx hb d_N_addThree_99 (by decide) ?_
      exact ret _ _ _ _ _ _ S hq d_N_addThree_100
    · have hq := hq.trans (if_neg h37_1)
      refine lv_lookup (off := 64) (tgt := 101) hx hb d_N_addThree_37 (by decide) (by refine (lv_osw h37_0 (by decide)).trans ?_; refine (lv_osw h37_1 (by decide)).trans ?_; rfl) rfl ?_
      refine lv_bipush (v := 6) hx hb d_N_addThree_101 (by decide) ?_
      exact ret _ _ _ _ _ _ S hq d_N_addThree_103
set_option maxHeartbeats 4000000 in
set_option maxRecDepth 100000 in
theorem c_N_withNumber (v1 : Int32) (σ : nS) : CtI l D cI cZ (wC cI cZ a) (exC t) y_N_withNumber b_N_withNumber 4 { frames := 3, cells := 0, slots := 0, locals := 71 } [.ref (a 0), .int v1] σ (s_N_withNumber v1 σ) := by
  generalize hF : s_N_withNumber v1 σ = F
  refine metI (exC_ok t) (by decide) (Nat.le_of_ble_eq_true rfl) (fun p e s m args below meth c A Q ls X S hl ret => ?_)
  have hq := hF.symm
  obtain ⟨hx, hb, hml, hown, hts, hK, hA, hE, hlk, hEo⟩ := id X
  have hl : lv_has ls 4 [(0, .ref (a 0)), (1, .int v1)] := hl
  have B_N_withNumber_128 : ∀ (σ : nS) (H : Heap) (locs : List Loc) (ls : Array Slot), lv_has ls 4 [] → St D (wC cI cZ a) A s σ H locs → F = s_N_withNumber_128 σ → W p l e ({ frames := 3, cells := 0, slots := 0, locals := 71 } : Room) s m args below meth c H locs 0 0 Q (F0 m 128 ls []) := by
    intro σ H locs ls hl S hq
    refine lv_iconst (v := 0) hx hb d_N_withNumber_128 (by decide) ?_
    exact ret _ _ _ _ _ _ S hq d_N_withNumber_129
  refine lv_iload_n hx hb d_N_withNumber_0 rfl (lv_at hl 1 rfl) ?_
  refine lv_bipush (v := 8) hx hb d_N_withNumber_1 (by decide) ?_
  refine lv_ishr hx hb d_N_withNumber_3 ?_
  refine lv_bipush (v := 7) hx hb d_N_withNumber_4 (by decide) ?_
  refine lv_iand hx hb d_N_withNumber_6 ?_
  refine lv_istore_n hx hb d_N_withNumber_7 rfl hl (by decide) rfl (fun ls hl => ?_)
  refine lv_iload_n hx hb d_N_withNumber_8 rfl (lv_at hl 2 rfl) ?_
  refine lv_sipush (v := 255) hx hb d_N_withNumber_9 (by decide) ?_
  refine lv_iand hx hb d_N_withNumber_12 ?_
  refine lv_istore_n hx hb d_N_withNumber_13 rfl hl (by decide) rfl (fun ls hl => ?_)
  refine lv_iload_n hx hb d_N_withNumber_14 rfl (lv_at hl 3 rfl) ?_
  refine lv_bipush (v := 11) hx hb d_N_withNumber_15 (by decide) ?_
  refine lv_ishr hx hb d_N_withNumber_17 ?_
  refine lv_iconst (v := 3) hx hb d_N_withNumber_18 (by decide) ?_
  refine lv_iand hx hb d_N_withNumber_19 ?_
  by_cases h20_0 : ((v1 >>> ((11 : Int32) &&& 31)) &&& (3 : Int32)) = (0 : Int32)
  · have hq := hq.trans (if_pos h20_0)
    refine lv_tableIn (off := 28) (tgt := 48) hx hb d_N_withNumber_20 (by rw [h20_0]; decide) (by rw [h20_0]; decide) (by rw [h20_0]; rfl) rfl ?_
    refine lv_aload_n hx hb d_N_withNumber_48 rfl (lv_at hl 2 rfl) ?_
    refine g_N_9 hx hb hts hown hK S.1 d_N_withNumber_49 ?_
    refine lv_iload_n hx hb d_N_withNumber_52 rfl (lv_at hl 1 rfl) ?_
    refine lv_iload_n hx hb d_N_withNumber_53 rfl (lv_at hl 0 rfl) ?_
    refine st_C_1 (k := (((v1 >>> ((8 : Int32) &&& 31)) &&& (7 : Int32))).toNatClampNeg) hx hb hK S (vin_and7_16 _) rfl d_N_withNumber_54 (fun H locs S => ?_)
    refine lv_aload_n hx hb d_N_withNumber_55 rfl (lv_at hl 2 rfl) ?_
    refine g_N_40 hx hb hts hown hK S.1 d_N_withNumber_56 ?_
    refine lv_iload_n hx hb d_N_withNumber_59 rfl (lv_at hl 0 rfl) ?_
    refine callVV X S hl (c_Fl_ofResult (v1 &&& (255 : Int32)) _) v_N_255 15 4 ⟨rfl, rfl⟩ (rk_dec (by decide)) rfl rfl (Nat.le_of_ble_eq_true rfl) d_N_withNumber_60 (fun σ1 H locs e1 S => ?_)
    have hq := hq.trans (ap1_eq e1)
    refine lv_goto (tgt := 128) hx hb d_N_withNumber_63 rfl ?_
    exact B_N_withNumber_128 _ _ _ _ (lv_sub hl [] rfl) S hq
  · have hq := hq.trans (if_neg h20_0)
    by_cases h20_1 : ((v1 >>> ((11 : Int32) &&& 31)) &&& (3 : Int32)) = (1 : Int32)
    · have hq := hq.trans (if_pos h20_1)
      refine lv_tableIn (off := 46) (tgt := 66) hx hb d_N_withNumber_20 (by rw [h20_1]; decide) (by rw [h20_1]; decide) (by rw [h20_1]; rfl) rfl ?_
      refine lv_aload_n hx hb d_N_withNumber_66 rfl (lv_at hl 2 rfl) ?_
      refine g_N_40 hx hb hts hown hK S.1 d_N_withNumber_67 ?_
      refine lv_aload_n hx hb d_N_withNumber_70 rfl (lv_at hl 2 rfl) ?_
      refine g_N_9 hx hb hts hown hK S.1 d_N_withNumber_71 ?_
      refine lv_iload_n hx hb d_N_withNumber_74 rfl (lv_at hl 1 rfl) ?_
      refine ld_C_1 (k := (((v1 >>> ((8 : Int32) &&& 31)) &&& (7 : Int32))).toNatClampNeg) hx hb hK S.1 (vin_and7_16 _) rfl d_N_withNumber_75 ?_
      refine lv_iload_n hx hb d_N_withNumber_76 rfl (lv_at hl 0 rfl) ?_
      refine callVI X S hl (c_Fl_difference (σ 0 (((v1 >>> ((8 : Int32) &&& 31)) &&& (7 : Int32))).toNatClampNeg) (v1 &&& (255 : Int32)) _) v_N_261 15 4 ⟨rfl, rfl⟩ (rk_dec (by decide)) rfl rfl (Nat.le_of_ble_eq_true rfl) d_N_withNumber_77 (fun r1 σ1 H locs e1 S => ?_)
      have hq := hq.trans (ap2_eq e1)
      refine lv_pop hx hb d_N_withNumber_80 rfl ?_
      refine lv_goto (tgt := 128) hx hb d_N_withNumber_81 rfl ?_
      exact B_N_withNumber_128 _ _ _ _ (lv_sub hl [] rfl) S hq
    · have hq := hq.trans (if_neg h20_1)
      by_cases h20_2 : ((v1 >>> ((11 : Int32) &&& 31)) &&& (3 : Int32)) = (2 : Int32)
      · have hq := hq.trans (if_pos h20_2)
        refine lv_tableIn (off := 64) (tgt := 84) hx hb d_N_withNumber_20 (by rw [h20_2]; decide) (by rw [h20_2]; decide) (by rw [h20_2]; rfl) rfl ?_
        refine lv_aload_n hx hb d_N_withNumber_84 rfl (lv_at hl 2 rfl) ?_
        refine g_N_9 hx hb hts hown hK S.1 d_N_withNumber_85 ?_
        refine lv_iload_n hx hb d_N_withNumber_88 rfl (lv_at hl 1 rfl) ?_
        refine lv_aload_n hx hb d_N_withNumber_89 rfl (lv_at hl 2 rfl) ?_
        refine g_N_40 hx hb hts hown hK S.1 d_N_withNumber_90 ?_
        refine lv_aload_n hx hb d_N_withNumber_93 rfl (lv_at hl 2 rfl) ?_
        refine g_N_9 hx hb hts hown hK S.1 d_N_withNumber_94 ?_
        refine lv_iload_n hx hb d_N_withNumber_97 rfl (lv_at hl 1 rfl) ?_
        refine ld_C_1 (k := (((v1 >>> ((8 : Int32) &&& 31)) &&& (7 : Int32))).toNatClampNeg) hx hb hK S.1 (vin_and7_16 _) rfl d_N_withNumber_98 ?_
        refine lv_iload_n hx hb d_N_withNumber_99 rfl (lv_at hl 0 rfl) ?_
        refine lv_iconst (v := 0) hx hb d_N_withNumber_100 (by decide) ?_
        refine callVI X S hl (c_Fl_sum (σ 0 (((v1 >>> ((8 : Int32) &&& 31)) &&& (7 : Int32))).toNatClampNeg) (v1 &&& (255 : Int32)) (0 : Int32) _) v_N_258 15 4 ⟨rfl, rfl⟩ (rk_dec (by decide)) rfl rfl (Nat.le_of_ble_eq_true rfl) d_N_withNumber_101 (fun r1 σ1 H locs e1 S => ?_)
        have hq := hq.trans (ap2_eq e1)
        refine st_C_1 (k := (((v1 >>> ((8 : Int32) &&& 31)) &&& (7 : Int32))).toNatClampNeg) hx hb hK S (vin_and7_16 _) rfl d_N_withNumber_104 (fun H locs S => ?_)
        refine lv_goto (tgt := 128) hx hb d_N_withNumber_105 rfl ?_
        exact B_N_withNumber_128 _ _ _ _ (lv_sub hl [] rfl) S hq
      · have hq := hq.trans (if_neg h20_2)
        have h20_0T := lv_neT (a := 0) h20_0 (by decide)
        have h20_1T := lv_neT (a := 1) h20_1 (by decide)
        have h20_2T := lv_neT (a := 2) h20_2 (by decide)
        refine lv_tableOut (tgt := 108) hx hb d_N_withNumber_20 (by omega) rfl ?_
        refine lv_aload_n hx hb d_N_withNumber_108 rfl (lv_at hl 2 rfl) ?_
        refine g_N_9 hx hb hts hown hK S.1 d_N_withNumber_109 ?_
        refine lv_iload_n hx hb d_N_withNumber_112 rfl (lv_at hl 1 rfl) ?_
        refine lv_aload_n hx hb d_N_withNumber_113 rfl (lv_at hl 2 rfl) ?_
        refine g_N_40 hx hb hts hown hK S.1 d_N_withNumber_114 ?_
        refine lv_aload_n hx hb d_N_withNumber_117 rfl (lv_at hl 2 rfl) ?_
        refine g_N_9 hx hb hts hown hK S.1 d_N_withNumber_118 ?_
        refine lv_iload_n hx hb d_N_withNumber_121 rfl (lv_at hl 1 rfl) ?_
        refine ld_C_1 (k := (((v1 >>> ((8 : Int32) &&& 31)) &&& (7 : Int32))).toNatClampNeg) hx hb hK S.1 (vin_and7_16 _) rfl d_N_withNumber_122 ?_
        refine lv_iload_n hx hb d_N_withNumber_123 rfl (lv_at hl 0 rfl) ?_
        refine callVI X S hl (c_Fl_difference (σ 0 (((v1 >>> ((8 : Int32) &&& 31)) &&& (7 : Int32))).toNatClampNeg) (v1 &&& (255 : Int32)) _) v_N_261 15 4 ⟨rfl, rfl⟩ (rk_dec (by decide)) rfl rfl (Nat.le_of_ble_eq_true rfl) d_N_withNumber_124 (fun r1 σ1 H locs e1 S => ?_)
        have hq := hq.trans (ap2_eq e1)
        refine st_C_1 (k := (((v1 >>> ((8 : Int32) &&& 31)) &&& (7 : Int32))).toNatClampNeg) hx hb hK S (vin_and7_16 _) rfl d_N_withNumber_127 (fun H locs S => ?_)
        exact B_N_withNumber_128 _ _ _ _ (lv_sub hl [] rfl) S hq
set_option maxHeartbeats 4000000 in
set_option maxRecDepth 100000 in
theorem c_N_bits (v1 : Int32) (v2 : Int32) (σ : nS) (qv1_16 : vp_in v1 16) : CtI l D cI cZ (wC cI cZ a) (exC t) y_N_bits b_N_bits 3 { frames := 1, cells := 0, slots := 0, locals := 21 } [.ref (a 0), .int v1, .int v2] σ (s_N_bits v1 v2 σ) := by
  generalize hF : s_N_bits v1 v2 σ = F
  refine metI (exC_ok t) (by decide) (Nat.le_of_ble_eq_true rfl) (fun p e s m args below meth c A Q ls X S hl ret => ?_)
  have hq := hF.symm
  obtain ⟨hx, hb, hml, hown, hts, hK, hA, hE, hlk, hEo⟩ := id X
  have hl : lv_has ls 3 [(0, .ref (a 0)), (1, .int v1), (2, .int v2)] := hl
  refine lv_aload_n hx hb d_N_bits_0 rfl (lv_at hl 0 rfl) ?_
  refine g_N_9 hx hb hts hown hK S.1 d_N_bits_1 ?_
  refine lv_iload_n hx hb d_N_bits_4 rfl (lv_at hl 1 rfl) ?_
  refine lv_iload_n hx hb d_N_bits_5 rfl (lv_at hl 2 rfl) ?_
  refine st_C_1 (k := (v1).toNatClampNeg) hx hb hK S qv1_16 rfl d_N_bits_6 (fun H locs S => ?_)
  refine lv_aload_n hx hb d_N_bits_7 rfl (lv_at hl 0 rfl) ?_
  refine g_N_40 hx hb hts hown hK S.1 d_N_bits_8 ?_
  refine lv_iload_n hx hb d_N_bits_11 rfl (lv_at hl 2 rfl) ?_
  refine callVV X S hl (c_Fl_ofResult v2 _) v_N_255 15 4 ⟨rfl, rfl⟩ (rk_dec (by decide)) rfl rfl (Nat.le_of_ble_eq_true rfl) d_N_bits_12 (fun σ1 H locs e1 S => ?_)
  have hq := hq.trans (ap1_eq e1)
  refine lv_iconst (v := 0) hx hb d_N_bits_15 (by decide) ?_
  exact ret _ _ _ _ _ _ S hq d_N_bits_16
set_option maxHeartbeats 4000000 in
set_option maxRecDepth 100000 in
theorem c_Fl_carry (σ : nS) : CtI l D cI cZ (wC cI cZ a) (exC t) y_Fl_carry b_Fl_carry 1 { frames := 0, cells := 0, slots := 0, locals := 0 } [.ref (a 15)] σ (s_Fl_carry σ, σ) := by
  generalize hF : s_Fl_carry σ = F
  refine metIp (exC_ok t) (by decide) (Nat.le_of_ble_eq_true rfl) (fun p e s m args below meth c A Q ls X S hl ret => ?_)
  have hq := hF.symm
  obtain ⟨hx, hb, hml, hown, hts, hK, hA, hE, hlk, hEo⟩ := id X
  have hl : lv_has ls 1 [(0, .ref (a 15))] := hl
  refine lv_aload_n hx hb d_Fl_carry_0 rfl (lv_at hl 0 rfl) ?_
  refine g_Fl_16 hx hb hts hown hK S.1 d_Fl_carry_1 ?_
  refine lv_if_eq (tgt := 11) hx hb d_Fl_carry_4 rfl (fun h4 => ?_) (fun h4 => ?_)
  · have hq := hq.trans (if_pos h4)
    refine lv_iconst (v := 0) hx hb d_Fl_carry_11 (by decide) ?_
    exact ret _ _ _ _ _ S hq d_Fl_carry_12
  · have hq := hq.trans (if_neg h4)
    refine lv_iconst (v := 1) hx hb d_Fl_carry_7 (by decide) ?_
    refine lv_goto (tgt := 12) hx hb d_Fl_carry_8 rfl ?_
    exact ret _ _ _ _ _ S hq d_Fl_carry_12
set_option maxHeartbeats 4000000 in
set_option maxRecDepth 100000 in
theorem c_N_combine (v1 : Int32) (σ : nS) : CtI l D cI cZ (wC cI cZ a) (exC t) y_N_combine b_N_combine 5 { frames := 3, cells := 0, slots := 0, locals := 71 } [.ref (a 0), .int v1] σ (s_N_combine v1 σ) := by
  generalize hF : s_N_combine v1 σ = F
  refine metI (exC_ok t) (by decide) (Nat.le_of_ble_eq_true rfl) (fun p e s m args below meth c A Q ls X S hl ret => ?_)
  have hq := hF.symm
  obtain ⟨hx, hb, hml, hown, hts, hK, hA, hE, hlk, hEo⟩ := id X
  have hl : lv_has ls 5 [(0, .ref (a 0)), (1, .int v1)] := hl
  refine lv_iload_n hx hb d_N_combine_0 rfl (lv_at hl 1 rfl) ?_
  refine lv_bipush (v := 7) hx hb d_N_combine_1 (by decide) ?_
  refine lv_iand hx hb d_N_combine_3 ?_
  refine lv_istore_n hx hb d_N_combine_4 rfl hl (by decide) rfl (fun ls hl => ?_)
  refine lv_aload_n hx hb d_N_combine_5 rfl (lv_at hl 1 rfl) ?_
  refine g_N_9 hx hb hts hown hK S.1 d_N_combine_6 ?_
  refine lv_iload_n hx hb d_N_combine_9 rfl (lv_at hl 0 rfl) ?_
  refine ld_C_1 (k := ((v1 &&& (7 : Int32))).toNatClampNeg) hx hb hK S.1 (vin_and7_16 _) rfl d_N_combine_10 ?_
  refine lv_istore_n hx hb d_N_combine_11 rfl hl (by decide) rfl (fun ls hl => ?_)
  refine lv_aload_n hx hb d_N_combine_12 rfl (lv_at hl 2 rfl) ?_
  refine g_N_9 hx hb hts hown hK S.1 d_N_combine_13 ?_
  refine lv_iload_n hx hb d_N_combine_16 rfl (lv_at hl 3 rfl) ?_
  refine lv_iconst (v := 3) hx hb d_N_combine_17 (by decide) ?_
  refine lv_ishr hx hb d_N_combine_18 ?_
  refine lv_bipush (v := 7) hx hb d_N_combine_19 (by decide) ?_
  refine lv_iand hx hb d_N_combine_21 ?_
  refine ld_C_1 (k := (((v1 >>> ((3 : Int32) &&& 31)) &&& (7 : Int32))).toNatClampNeg) hx hb hK S.1 (vin_and7_16 _) rfl d_N_combine_22 ?_
  refine lv_istore hx hb d_N_combine_23 hl (by decide) rfl (fun ls hl => ?_)
  refine lv_iload_n hx hb d_N_combine_25 rfl (lv_at hl 4 rfl) ?_
  refine lv_bipush (v := 6) hx hb d_N_combine_26 (by decide) ?_
  refine lv_ishr hx hb d_N_combine_28 ?_
  refine lv_bipush (v := 15) hx hb d_N_combine_29 (by decide) ?_
  refine lv_iand hx hb d_N_combine_31 ?_
  by_cases h32_0 : ((v1 >>> ((6 : Int32) &&& 31)) &&& (15 : Int32)) = (0 : Int32)
  · have hq := hq.trans (if_pos h32_0)
    refine lv_tableIn (off := 80) (tgt := 112) hx hb d_N_combine_32 (by rw [h32_0]; decide) (by rw [h32_0]; decide) (by rw [h32_0]; rfl) rfl ?_
    refine lv_aload_n hx hb d_N_combine_112 rfl (lv_at hl 3 rfl) ?_
    refine lv_iload_n hx hb d_N_combine_113 rfl (lv_at hl 2 rfl) ?_
    refine lv_iload_n hx hb d_N_combine_114 rfl (lv_at hl 1 rfl) ?_
    refine lv_iload hx hb d_N_combine_115 (lv_at hl 0 rfl) ?_
    refine lv_iand hx hb d_N_combine_117 ?_
    refine callVI X S hl (c_N_bits (v1 &&& (7 : Int32)) ((σ 0 ((v1 &&& (7 : Int32))).toNatClampNeg) &&& (σ 0 (((v1 >>> ((3 : Int32) &&& 31)) &&& (7 : Int32))).toNatClampNeg)) _ (vin_and7_16 _)) v_N_265 0 0 ⟨rfl, rfl⟩ (rk_dec (by decide)) rfl rfl (Nat.le_of_ble_eq_true rfl) d_N_combine_118 (fun r1 σ1 H locs e1 S => ?_)
    have hq := hq.trans (ap2_eq e1)
    exact ret _ _ _ _ _ _ S hq d_N_combine_121
  · have hq := hq.trans (if_neg h32_0)
    by_cases h32_1 : ((v1 >>> ((6 : Int32) &&& 31)) &&& (15 : Int32)) = (1 : Int32)
    · have hq := hq.trans (if_pos h32_1)
      refine lv_tableIn (off := 90) (tgt := 122) hx hb d_N_combine_32 (by rw [h32_1]; decide) (by rw [h32_1]; decide) (by rw [h32_1]; rfl) rfl ?_
      refine lv_aload_n hx hb d_N_combine_122 rfl (lv_at hl 3 rfl) ?_
      refine lv_iload_n hx hb d_N_combine_123 rfl (lv_at hl 2 rfl) ?_
      refine lv_iload_n hx hb d_N_combine_124 rfl (lv_at hl 1 rfl) ?_
      refine lv_iload hx hb d_N_combine_125 (lv_at hl 0 rfl) ?_
      refine lv_ixor hx hb d_N_combine_127 ?_
      refine callVI X S hl (c_N_bits (v1 &&& (7 : Int32)) ((σ 0 ((v1 &&& (7 : Int32))).toNatClampNeg) ^^^ (σ 0 (((v1 >>> ((3 : Int32) &&& 31)) &&& (7 : Int32))).toNatClampNeg)) _ (vin_and7_16 _)) v_N_265 0 0 ⟨rfl, rfl⟩ (rk_dec (by decide)) rfl rfl (Nat.le_of_ble_eq_true rfl) d_N_combine_128 (fun r1 σ1 H locs e1 S => ?_)
      have hq := hq.trans (ap2_eq e1)
      exact ret _ _ _ _ _ _ S hq d_N_combine_131
    · have hq := hq.trans (if_neg h32_1)
      by_cases h32_2 : ((v1 >>> ((6 : Int32) &&& 31)) &&& (15 : Int32)) = (2 : Int32)
      · have hq := hq.trans (if_pos h32_2)
        refine lv_tableIn (off := 238) (tgt := 270) hx hb d_N_combine_32 (by rw [h32_2]; decide) (by rw [h32_2]; decide) (by rw [h32_2]; rfl) rfl ?_
        refine lv_bipush (v := 6) hx hb d_N_combine_270 (by decide) ?_
        exact ret _ _ _ _ _ _ S hq d_N_combine_272
      · have hq := hq.trans (if_neg h32_2)
        by_cases h32_3 : ((v1 >>> ((6 : Int32) &&& 31)) &&& (15 : Int32)) = (3 : Int32)
        · have hq := hq.trans (if_pos h32_3)
          refine lv_tableIn (off := 238) (tgt := 270) hx hb d_N_combine_32 (by rw [h32_3]; decide) (by rw [h32_3]; decide) (by rw [h32_3]; rfl) rfl ?_
          refine lv_bipush (v := 6) hx hb d_N_combine_270 (by decide) ?_
          exact ret _ _ _ _ _ _ S hq d_N_combine_272
        · have hq := hq.trans (if_neg h32_3)
          by_cases h32_4 : ((v1 >>> ((6 : Int32) &&& 31)) &&& (15 : Int32)) = (4 : Int32)
          · have hq := hq.trans (if_pos h32_4)
            refine lv_tableIn (off := 238) (tgt := 270) hx hb d_N_combine_32 (by rw [h32_4]; decide) (by rw [h32_4]; decide) (by rw [h32_4]; rfl) rfl ?_
            refine lv_bipush (v := 6) hx hb d_N_combine_270 (by decide) ?_
            exact ret _ _ _ _ _ _ S hq d_N_combine_272
          · have hq := hq.trans (if_neg h32_4)
            by_cases h32_5 : ((v1 >>> ((6 : Int32) &&& 31)) &&& (15 : Int32)) = (5 : Int32)
            · have hq := hq.trans (if_pos h32_5)
              refine lv_tableIn (off := 100) (tgt := 132) hx hb d_N_combine_32 (by rw [h32_5]; decide) (by rw [h32_5]; decide) (by rw [h32_5]; rfl) rfl ?_
              refine lv_aload_n hx hb d_N_combine_132 rfl (lv_at hl 3 rfl) ?_
              refine g_N_9 hx hb hts hown hK S.1 d_N_combine_133 ?_
              refine lv_iload_n hx hb d_N_combine_136 rfl (lv_at hl 2 rfl) ?_
              refine lv_aload_n hx hb d_N_combine_137 rfl (lv_at hl 3 rfl) ?_
              refine g_N_40 hx hb hts hown hK S.1 d_N_combine_138 ?_
              refine lv_iload_n hx hb d_N_combine_141 rfl (lv_at hl 1 rfl) ?_
              refine lv_iload hx hb d_N_combine_142 (lv_at hl 0 rfl) ?_
              refine lv_aload_n hx hb d_N_combine_144 rfl (lv_at hl 3 rfl) ?_
              refine g_N_40 hx hb hts hown hK S.1 d_N_combine_145 ?_
              refine callVIp X S hl (c_Fl_carry _) v_N_268 15 4 ⟨rfl, rfl⟩ (rk_dec (by decide)) rfl rfl (Nat.le_of_ble_eq_true rfl) d_N_combine_148 (fun H locs S => ?_)
              refine callVI X S hl (c_Fl_sum (σ 0 ((v1 &&& (7 : Int32))).toNatClampNeg) (σ 0 (((v1 >>> ((3 : Int32) &&& 31)) &&& (7 : Int32))).toNatClampNeg) (s_Fl_carry σ) _) v_N_258 15 4 ⟨rfl, rfl⟩ (rk_dec (by decide)) rfl rfl (Nat.le_of_ble_eq_true rfl) d_N_combine_151 (fun r1 σ1 H locs e1 S => ?_)
              have hq := hq.trans (ap2_eq e1)
              refine st_C_1 (k := ((v1 &&& (7 : Int32))).toNatClampNeg) hx hb hK S (vin_and7_16 _) rfl d_N_combine_154 (fun H locs S => ?_)
              refine lv_iconst (v := 0) hx hb d_N_combine_155 (by decide) ?_
              exact ret _ _ _ _ _ _ S hq d_N_combine_156
            · have hq := hq.trans (if_neg h32_5)
              by_cases h32_6 : ((v1 >>> ((6 : Int32) &&& 31)) &&& (15 : Int32)) = (6 : Int32)
              · have hq := hq.trans (if_pos h32_6)
                refine lv_tableIn (off := 125) (tgt := 157) hx hb d_N_combine_32 (by rw [h32_6]; decide) (by rw [h32_6]; decide) (by rw [h32_6]; rfl) rfl ?_
                refine lv_aload_n hx hb d_N_combine_157 rfl (lv_at hl 3 rfl) ?_
                refine g_N_9 hx hb hts hown hK S.1 d_N_combine_158 ?_
                refine lv_iload_n hx hb d_N_combine_161 rfl (lv_at hl 2 rfl) ?_
                refine lv_aload_n hx hb d_N_combine_162 rfl (lv_at hl 3 rfl) ?_
                refine g_N_40 hx hb hts hown hK S.1 d_N_combine_163 ?_
                refine lv_iload_n hx hb d_N_combine_166 rfl (lv_at hl 1 rfl) ?_
                refine lv_iload hx hb d_N_combine_167 (lv_at hl 0 rfl) ?_
                refine lv_iconst (v := -1) hx hb d_N_combine_169 (by decide) ?_
                refine lv_ixor hx hb d_N_combine_170 ?_
                refine lv_aload_n hx hb d_N_combine_171 rfl (lv_at hl 3 rfl) ?_
                refine g_N_40 hx hb hts hown hK S.1 d_N_combine_172 ?_
                refine callVIp X S hl (c_Fl_carry _) v_N_268 15 4 ⟨rfl, rfl⟩ (rk_dec (by decide)) rfl rfl (Nat.le_of_ble_eq_true rfl) d_N_combine_175 (fun H locs S => ?_)
                refine callVI X S hl (c_Fl_sum (σ 0 ((v1 &&& (7 : Int32))).toNatClampNeg) ((σ 0 (((v1 >>> ((3 : Int32) &&& 31)) &&& (7 : Int32))).toNatClampNeg) ^^^ (-1 : Int32)) (s_Fl_carry σ) _) v_N_258 15 4 ⟨rfl, rfl⟩ (rk_dec (by decide)) rfl rfl (Nat.le_of_ble_eq_true rfl) d_N_combine_178 (fun r1 σ1 H locs e1 S => ?_)
                have hq := hq.trans (ap2_eq e1)
                refine st_C_1 (k := ((v1 &&& (7 : Int32))).toNatClampNeg) hx hb hK S (vin_and7_16 _) rfl d_N_combine_181 (fun H locs S => ?_)
                refine lv_iconst (v := 0) hx hb d_N_combine_182 (by decide) ?_
                exact ret _ _ _ _ _ _ S hq d_N_combine_183
              · have hq := hq.trans (if_neg h32_6)
                by_cases h32_7 : ((v1 >>> ((6 : Int32) &&& 31)) &&& (15 : Int32)) = (7 : Int32)
                · have hq := hq.trans (if_pos h32_7)
                  refine lv_tableIn (off := 238) (tgt := 270) hx hb d_N_combine_32 (by rw [h32_7]; decide) (by rw [h32_7]; decide) (by rw [h32_7]; rfl) rfl ?_
                  refine lv_bipush (v := 6) hx hb d_N_combine_270 (by decide) ?_
                  exact ret _ _ _ _ _ _ S hq d_N_combine_272
                · have hq := hq.trans (if_neg h32_7)
                  by_cases h32_8 : ((v1 >>> ((6 : Int32) &&& 31)) &&& (15 : Int32)) = (8 : Int32)
                  · have hq := hq.trans (if_pos h32_8)
                    refine lv_tableIn (off := 152) (tgt := 184) hx hb d_N_combine_32 (by rw [h32_8]; decide) (by rw [h32_8]; decide) (by rw [h32_8]; rfl) rfl ?_
                    refine lv_aload_n hx hb d_N_combine_184 rfl (lv_at hl 3 rfl) ?_
                    refine g_N_40 hx hb hts hown hK S.1 d_N_combine_185 ?_
                    refine lv_iload_n hx hb d_N_combine_188 rfl (lv_at hl 1 rfl) ?_
                    refine lv_iload hx hb d_N_combine_189 (lv_at hl 0 rfl) ?_
                    refine lv_iand hx hb d_N_combine_191 ?_
                    refine callVV X S hl (c_Fl_ofResult ((σ 0 ((v1 &&& (7 : Int32))).toNatClampNeg) &&& (σ 0 (((v1 >>> ((3 : Int32) &&& 31)) &&& (7 : Int32))).toNatClampNeg)) _) v_N_255 15 4 ⟨rfl, rfl⟩ (rk_dec (by decide)) rfl rfl (Nat.le_of_ble_eq_true rfl) d_N_combine_192 (fun σ1 H locs e1 S => ?_)
                    have hq := hq.trans (ap1_eq e1)
                    refine lv_iconst (v := 0) hx hb d_N_combine_195 (by decide) ?_
                    exact ret _ _ _ _ _ _ S hq d_N_combine_196
                  · have hq := hq.trans (if_neg h32_8)
                    by_cases h32_9 : ((v1 >>> ((6 : Int32) &&& 31)) &&& (15 : Int32)) = (9 : Int32)
                    · have hq := hq.trans (if_pos h32_9)
                      refine lv_tableIn (off := 165) (tgt := 197) hx hb d_N_combine_32 (by rw [h32_9]; decide) (by rw [h32_9]; decide) (by rw [h32_9]; rfl) rfl ?_
                      refine lv_aload_n hx hb d_N_combine_197 rfl (lv_at hl 3 rfl) ?_
                      refine g_N_9 hx hb hts hown hK S.1 d_N_combine_198 ?_
                      refine lv_iload_n hx hb d_N_combine_201 rfl (lv_at hl 2 rfl) ?_
                      refine lv_aload_n hx hb d_N_combine_202 rfl (lv_at hl 3 rfl) ?_
                      refine g_N_40 hx hb hts hown hK S.1 d_N_combine_203 ?_
                      refine lv_iconst (v := 0) hx hb d_N_combine_206 (by decide) ?_
                      refine lv_iload hx hb d_N_combine_207 (lv_at hl 0 rfl) ?_
                      refine callVI X S hl (c_Fl_difference (0 : Int32) (σ 0 (((v1 >>> ((3 : Int32) &&& 31)) &&& (7 : Int32))).toNatClampNeg) _) v_N_261 15 4 ⟨rfl, rfl⟩ (rk_dec (by decide)) rfl rfl (Nat.le_of_ble_eq_true rfl) d_N_combine_209 (fun r1 σ1 H locs e1 S => ?_)
                      have hq := hq.trans (ap2_eq e1)
                      refine st_C_1 (k := ((v1 &&& (7 : Int32))).toNatClampNeg) hx hb hK S (vin_and7_16 _) rfl d_N_combine_212 (fun H locs S => ?_)
                      refine lv_iconst (v := 0) hx hb d_N_combine_213 (by decide) ?_
                      exact ret _ _ _ _ _ _ S hq d_N_combine_214
                    · have hq := hq.trans (if_neg h32_9)
                      by_cases h32_10 : ((v1 >>> ((6 : Int32) &&& 31)) &&& (15 : Int32)) = (10 : Int32)
                      · have hq := hq.trans (if_pos h32_10)
                        refine lv_tableIn (off := 183) (tgt := 215) hx hb d_N_combine_32 (by rw [h32_10]; decide) (by rw [h32_10]; decide) (by rw [h32_10]; rfl) rfl ?_
                        refine lv_aload_n hx hb d_N_combine_215 rfl (lv_at hl 3 rfl) ?_
                        refine g_N_40 hx hb hts hown hK S.1 d_N_combine_216 ?_
                        refine lv_iload_n hx hb d_N_combine_219 rfl (lv_at hl 1 rfl) ?_
                        refine lv_iload hx hb d_N_combine_220 (lv_at hl 0 rfl) ?_
                        refine callVI X S hl (c_Fl_difference (σ 0 ((v1 &&& (7 : Int32))).toNatClampNeg) (σ 0 (((v1 >>> ((3 : Int32) &&& 31)) &&& (7 : Int32))).toNatClampNeg) _) v_N_261 15 4 ⟨rfl, rfl⟩ (rk_dec (by decide)) rfl rfl (Nat.le_of_ble_eq_true rfl) d_N_combine_222 (fun r1 σ1 H locs e1 S => ?_)
                        have hq := hq.trans (ap2_eq e1)
                        refine lv_pop hx hb d_N_combine_225 rfl ?_
                        refine lv_iconst (v := 0) hx hb d_N_combine_226 (by decide) ?_
                        exact ret _ _ _ _ _ _ S hq d_N_combine_227
                      · have hq := hq.trans (if_neg h32_10)
                        by_cases h32_11 : ((v1 >>> ((6 : Int32) &&& 31)) &&& (15 : Int32)) = (11 : Int32)
                        · have hq := hq.trans (if_pos h32_11)
                          refine lv_tableIn (off := 238) (tgt := 270) hx hb d_N_combine_32 (by rw [h32_11]; decide) (by rw [h32_11]; decide) (by rw [h32_11]; rfl) rfl ?_
                          refine lv_bipush (v := 6) hx hb d_N_combine_270 (by decide) ?_
                          exact ret _ _ _ _ _ _ S hq d_N_combine_272
                        · have hq := hq.trans (if_neg h32_11)
                          by_cases h32_12 : ((v1 >>> ((6 : Int32) &&& 31)) &&& (15 : Int32)) = (12 : Int32)
                          · have hq := hq.trans (if_pos h32_12)
                            refine lv_tableIn (off := 196) (tgt := 228) hx hb d_N_combine_32 (by rw [h32_12]; decide) (by rw [h32_12]; decide) (by rw [h32_12]; rfl) rfl ?_
                            refine lv_aload_n hx hb d_N_combine_228 rfl (lv_at hl 3 rfl) ?_
                            refine lv_iload_n hx hb d_N_combine_229 rfl (lv_at hl 2 rfl) ?_
                            refine lv_iload_n hx hb d_N_combine_230 rfl (lv_at hl 1 rfl) ?_
                            refine lv_iload hx hb d_N_combine_231 (lv_at hl 0 rfl) ?_
                            refine lv_ior hx hb d_N_combine_233 ?_
                            refine callVI X S hl (c_N_bits (v1 &&& (7 : Int32)) ((σ 0 ((v1 &&& (7 : Int32))).toNatClampNeg) ||| (σ 0 (((v1 >>> ((3 : Int32) &&& 31)) &&& (7 : Int32))).toNatClampNeg)) _ (vin_and7_16 _)) v_N_265 0 0 ⟨rfl, rfl⟩ (rk_dec (by decide)) rfl rfl (Nat.le_of_ble_eq_true rfl) d_N_combine_234 (fun r1 σ1 H locs e1 S => ?_)
                            have hq := hq.trans (ap2_eq e1)
                            exact ret _ _ _ _ _ _ S hq d_N_combine_237
                          · have hq := hq.trans (if_neg h32_12)
                            by_cases h32_13 : ((v1 >>> ((6 : Int32) &&& 31)) &&& (15 : Int32)) = (13 : Int32)
                            · have hq := hq.trans (if_pos h32_13)
                              refine lv_tableIn (off := 206) (tgt := 238) hx hb d_N_combine_32 (by rw [h32_13]; decide) (by rw [h32_13]; decide) (by rw [h32_13]; rfl) rfl ?_
                              refine lv_aload_n hx hb d_N_combine_238 rfl (lv_at hl 3 rfl) ?_
                              refine lv_iload_n hx hb d_N_combine_239 rfl (lv_at hl 2 rfl) ?_
                              refine lv_iload_n hx hb d_N_combine_240 rfl (lv_at hl 1 rfl) ?_
                              refine lv_iload hx hb d_N_combine_241 (lv_at hl 0 rfl) ?_
                              refine lv_imul hx hb d_N_combine_243 ?_
                              refine callVI X S hl (c_N_bits (v1 &&& (7 : Int32)) ((σ 0 ((v1 &&& (7 : Int32))).toNatClampNeg) * (σ 0 (((v1 >>> ((3 : Int32) &&& 31)) &&& (7 : Int32))).toNatClampNeg)) _ (vin_and7_16 _)) v_N_265 0 0 ⟨rfl, rfl⟩ (rk_dec (by decide)) rfl rfl (Nat.le_of_ble_eq_true rfl) d_N_combine_244 (fun r1 σ1 H locs e1 S => ?_)
                              have hq := hq.trans (ap2_eq e1)
                              exact ret _ _ _ _ _ _ S hq d_N_combine_247
                            · have hq := hq.trans (if_neg h32_13)
                              by_cases h32_14 : ((v1 >>> ((6 : Int32) &&& 31)) &&& (15 : Int32)) = (14 : Int32)
                              · have hq := hq.trans (if_pos h32_14)
                                refine lv_tableIn (off := 216) (tgt := 248) hx hb d_N_combine_32 (by rw [h32_14]; decide) (by rw [h32_14]; decide) (by rw [h32_14]; rfl) rfl ?_
                                refine lv_aload_n hx hb d_N_combine_248 rfl (lv_at hl 3 rfl) ?_
                                refine lv_iload_n hx hb d_N_combine_249 rfl (lv_at hl 2 rfl) ?_
                                refine lv_iload_n hx hb d_N_combine_250 rfl (lv_at hl 1 rfl) ?_
                                refine lv_iload hx hb d_N_combine_251 (lv_at hl 0 rfl) ?_
                                refine lv_iconst (v := -1) hx hb d_N_combine_253 (by decide) ?_
                                refine lv_ixor hx hb d_N_combine_254 ?_
                                refine lv_iand hx hb d_N_combine_255 ?_
                                refine callVI X S hl (c_N_bits (v1 &&& (7 : Int32)) ((σ 0 ((v1 &&& (7 : Int32))).toNatClampNeg) &&& ((σ 0 (((v1 >>> ((3 : Int32) &&& 31)) &&& (7 : Int32))).toNatClampNeg) ^^^ (-1 : Int32))) _ (vin_and7_16 _)) v_N_265 0 0 ⟨rfl, rfl⟩ (rk_dec (by decide)) rfl rfl (Nat.le_of_ble_eq_true rfl) d_N_combine_256 (fun r1 σ1 H locs e1 S => ?_)
                                have hq := hq.trans (ap2_eq e1)
                                exact ret _ _ _ _ _ _ S hq d_N_combine_259
                              · have hq := hq.trans (if_neg h32_14)
                                by_cases h32_15 : ((v1 >>> ((6 : Int32) &&& 31)) &&& (15 : Int32)) = (15 : Int32)
                                · have hq := hq.trans (if_pos h32_15)
                                  refine lv_tableIn (off := 228) (tgt := 260) hx hb d_N_combine_32 (by rw [h32_15]; decide) (by rw [h32_15]; decide) (by rw [h32_15]; rfl) rfl ?_
                                  refine lv_aload_n hx hb d_N_combine_260 rfl (lv_at hl 3 rfl) ?_
                                  refine lv_iload_n hx hb d_N_combine_261 rfl (lv_at hl 2 rfl) ?_
                                  refine lv_iload hx hb d_N_combine_262 (lv_at hl 0 rfl) ?_
                                  refine lv_iconst (v := -1) hx hb d_N_combine_264 (by decide) ?_
                                  refine lv_ixor hx hb d_N_combine_265 ?_
                                  refine callVI X S hl (c_N_bits (v1 &&& (7 : Int32)) ((σ 0 (((v1 >>> ((3 : Int32) &&& 31)) &&& (7 : Int32))).toNatClampNeg) ^^^ (-1 : Int32)) _ (vin_and7_16 _)) v_N_265 0 0 ⟨rfl, rfl⟩ (rk_dec (by decide)) rfl rfl (Nat.le_of_ble_eq_true rfl) d_N_combine_266 (fun r1 σ1 H locs e1 S => ?_)
                                  have hq := hq.trans (ap2_eq e1)
                                  exact ret _ _ _ _ _ _ S hq d_N_combine_269
                                · have hq := hq.trans (if_neg h32_15)
                                  have h32_0T := lv_neT (a := 0) h32_0 (by decide)
                                  have h32_1T := lv_neT (a := 1) h32_1 (by decide)
                                  have h32_2T := lv_neT (a := 2) h32_2 (by decide)
                                  have h32_3T := lv_neT (a := 3) h32_3 (by decide)
                                  have h32_4T := lv_neT (a := 4) h32_4 (by decide)
                                  have h32_5T := lv_neT (a := 5) h32_5 (by decide)
                                  have h32_6T := lv_neT (a := 6) h32_6 (by decide)
                                  have h32_7T := lv_neT (a := 7) h32_7 (by decide)
                                  have h32_8T := lv_neT (a := 8) h32_8 (by decide)
                                  have h32_9T := lv_neT (a := 9) h32_9 (by decide)
                                  have h32_10T := lv_neT (a := 10) h32_10 (by decide)
                                  have h32_11T := lv_neT (a := 11) h32_11 (by decide)
                                  have h32_12T := lv_neT (a := 12) h32_12 (by decide)
                                  have h32_13T := lv_neT (a := 13) h32_13 (by decide)
                                  have h32_14T := lv_neT (a := 14) h32_14 (by decide)
                                  have h32_15T := lv_neT (a := 15) h32_15 (by decide)
                                  refine lv_tableOut (tgt := 270) hx hb d_N_combine_32 (by omega) rfl ?_
                                  refine lv_bipush (v := 6) hx hb d_N_combine_270 (by decide) ?_
                                  exact ret _ _ _ _ _ _ S hq d_N_combine_272
set_option maxHeartbeats 4000000 in
set_option maxRecDepth 100000 in
theorem c_N_copyAny (v1 : Int32) (σ : nS) : CtI l D cI cZ (wC cI cZ a) (exC t) y_N_copyAny b_N_copyAny 4 { frames := 0, cells := 0, slots := 0, locals := 0 } [.ref (a 0), .int v1] σ (s_N_copyAny v1 σ) := by
  generalize hF : s_N_copyAny v1 σ = F
  refine metI (exC_ok t) (by decide) (Nat.le_of_ble_eq_true rfl) (fun p e s m args below meth c A Q ls X S hl ret => ?_)
  have hq := hF.symm
  obtain ⟨hx, hb, hml, hown, hts, hK, hA, hE, hlk, hEo⟩ := id X
  have hl : lv_has ls 4 [(0, .ref (a 0)), (1, .int v1)] := hl
  have B_N_copyAny_57 : ∀ (k1 : Int32) (k2 : Int32) (σ : nS) (H : Heap) (locs : List Loc) (ls : Array Slot), (vp_in k1 16) → lv_has ls 4 [] → St D (wC cI cZ a) A s σ H locs → F = s_N_copyAny_57 k1 k2 σ → W p l e ({ frames := 0, cells := 0, slots := 0, locals := 0 } : Room) s m args below meth c H locs 0 0 Q (F0 m 57 ls [.int k2, .int k1, .ref (a 1)]) := by
    intro k1 k2 σ H locs ls qk1_16 hl S hq
    refine st_C_1 (k := (k1).toNatClampNeg) hx hb hK S qk1_16 rfl d_N_copyAny_57 (fun H locs S => ?_)
    refine lv_iconst (v := 0) hx hb d_N_copyAny_58 (by decide) ?_
    exact ret _ _ _ _ _ _ S hq d_N_copyAny_59
  refine lv_iload_n hx hb d_N_copyAny_0 rfl (lv_at hl 1 rfl) ?_
  refine lv_iconst (v := 4) hx hb d_N_copyAny_1 (by decide) ?_
  refine lv_ishr hx hb d_N_copyAny_2 ?_
  refine lv_bipush (v := 8) hx hb d_N_copyAny_3 (by decide) ?_
  refine lv_iand hx hb d_N_copyAny_5 ?_
  refine lv_iload_n hx hb d_N_copyAny_6 rfl (lv_at hl 1 rfl) ?_
  refine lv_bipush (v := 7) hx hb d_N_copyAny_7 (by decide) ?_
  refine lv_iand hx hb d_N_copyAny_9 ?_
  refine lv_iadd hx hb d_N_copyAny_10 ?_
  refine lv_istore_n hx hb d_N_copyAny_11 rfl hl (by decide) rfl (fun ls hl => ?_)
  refine lv_iload_n hx hb d_N_copyAny_12 rfl (lv_at hl 2 rfl) ?_
  refine lv_iconst (v := 3) hx hb d_N_copyAny_13 (by decide) ?_
  refine lv_ishr hx hb d_N_copyAny_14 ?_
  refine lv_bipush (v := 15) hx hb d_N_copyAny_15 (by decide) ?_
  refine lv_iand hx hb d_N_copyAny_17 ?_
  refine lv_istore_n hx hb d_N_copyAny_18 rfl hl (by decide) rfl (fun ls hl => ?_)
  refine lv_iload_n hx hb d_N_copyAny_19 rfl (lv_at hl 1 rfl) ?_
  refine lv_bipush (v := 15) hx hb d_N_copyAny_20 (by decide) ?_
  refine lv_icmp_ne (tgt := 28) hx hb d_N_copyAny_22 rfl (fun h22 => ?_) (fun h22 => ?_)
  · have hq := hq.trans (if_neg h22)
    refine lv_aload_n hx hb d_N_copyAny_28 rfl (lv_at hl 2 rfl) ?_
    refine g_N_9 hx hb hts hown hK S.1 d_N_copyAny_29 ?_
    refine lv_iload_n hx hb d_N_copyAny_32 rfl (lv_at hl 1 rfl) ?_
    refine lv_iload_n hx hb d_N_copyAny_33 rfl (lv_at hl 0 rfl) ?_
    refine lv_bipush (v := 15) hx hb d_N_copyAny_34 (by decide) ?_
    refine lv_icmp_ne (tgt := 51) hx hb d_N_copyAny_36 rfl (fun h36 => ?_) (fun h36 => ?_)
    · have hq := hq.trans (if_neg h36)
      refine lv_aload_n hx hb d_N_copyAny_51 rfl (lv_at hl 2 rfl) ?_
      refine g_N_9 hx hb hts hown hK S.1 d_N_copyAny_52 ?_
      refine lv_iload_n hx hb d_N_copyAny_55 rfl (lv_at hl 0 rfl) ?_
      refine ld_C_1 (k := (((v1 >>> ((3 : Int32) &&& 31)) &&& (15 : Int32))).toNatClampNeg) hx hb hK S.1 (vin_and15_16 _) rfl d_N_copyAny_56 ?_
      exact B_N_copyAny_57 _ _ _ _ _ _ (vin_cp _) (lv_sub hl [] rfl) S hq
    · have hq := hq.trans (if_pos h36)
      refine lv_aload_n hx hb d_N_copyAny_39 rfl (lv_at hl 2 rfl) ?_
      refine g_N_9 hx hb hts hown hK S.1 d_N_copyAny_40 ?_
      refine lv_bipush (v := 15) hx hb d_N_copyAny_43 (by decide) ?_
      refine ld_C_1 (k := 15) hx hb hK S.1 (vin_dec (by decide)) (by decide) d_N_copyAny_45 ?_
      refine lv_iconst (v := 2) hx hb d_N_copyAny_46 (by decide) ?_
      refine lv_iadd hx hb d_N_copyAny_47 ?_
      refine lv_goto (tgt := 57) hx hb d_N_copyAny_48 rfl ?_
      exact B_N_copyAny_57 _ _ _ _ _ _ (vin_cp _) (lv_sub hl [] rfl) S hq
  · have hq := hq.trans (if_pos h22)
    refine lv_bipush (v := 6) hx hb d_N_copyAny_25 (by decide) ?_
    exact ret _ _ _ _ _ _ S hq d_N_copyAny_27
set_option maxHeartbeats 4000000 in
set_option maxRecDepth 100000 in
theorem c_N_branchTo (v1 : Int32) (σ : nS) : CtI l D cI cZ (wC cI cZ a) (exC t) y_N_branchTo b_N_branchTo 3 { frames := 0, cells := 0, slots := 0, locals := 0 } [.ref (a 0), .int v1] σ (s_N_branchTo v1 σ) := by
  generalize hF : s_N_branchTo v1 σ = F
  refine metI (exC_ok t) (by decide) (Nat.le_of_ble_eq_true rfl) (fun p e s m args below meth c A Q ls X S hl ret => ?_)
  have hq := hF.symm
  obtain ⟨hx, hb, hml, hown, hts, hK, hA, hE, hlk, hEo⟩ := id X
  have hl : lv_has ls 3 [(0, .ref (a 0)), (1, .int v1)] := hl
  have B_N_branchTo_21 : ∀ (σ : nS) (H : Heap) (locs : List Loc) (ls : Array Slot), lv_has ls 3 [] → St D (wC cI cZ a) A s σ H locs → F = s_N_branchTo_21 σ → W p l e ({ frames := 0, cells := 0, slots := 0, locals := 0 } : Room) s m args below meth c H locs 0 0 Q (F0 m 21 ls []) := by
    intro σ H locs ls hl S hq
    refine lv_bipush (v := 6) hx hb d_N_branchTo_21 (by decide) ?_
    exact ret _ _ _ _ _ _ S hq d_N_branchTo_23
  refine lv_iload_n hx hb d_N_branchTo_0 rfl (lv_at hl 1 rfl) ?_
  refine lv_iconst (v := 3) hx hb d_N_branchTo_1 (by decide) ?_
  refine lv_ishr hx hb d_N_branchTo_2 ?_
  refine lv_bipush (v := 15) hx hb d_N_branchTo_3 (by decide) ?_
  refine lv_iand hx hb d_N_branchTo_5 ?_
  refine lv_istore_n hx hb d_N_branchTo_6 rfl hl (by decide) rfl (fun ls hl => ?_)
  refine lv_iload_n hx hb d_N_branchTo_7 rfl (lv_at hl 2 rfl) ?_
  refine lv_sipush (v := 135) hx hb d_N_branchTo_8 (by decide) ?_
  refine lv_iand hx hb d_N_branchTo_11 ?_
  refine lv_if_ne (tgt := 21) hx hb d_N_branchTo_12 rfl (fun h12 => ?_) (fun h12 => ?_)
  · have hq := hq.trans (if_neg h12)
    exact B_N_branchTo_21 _ _ _ _ (lv_sub hl [] rfl) S hq
  · have hq := hq.trans (if_pos h12)
    refine lv_iload_n hx hb d_N_branchTo_15 rfl (lv_at hl 0 rfl) ?_
    refine lv_bipush (v := 15) hx hb d_N_branchTo_16 (by decide) ?_
    refine lv_icmp_ne (tgt := 24) hx hb d_N_branchTo_18 rfl (fun h18 => ?_) (fun h18 => ?_)
    · have hq := hq.trans (if_neg h18)
      refine lv_aload_n hx hb d_N_branchTo_24 rfl (lv_at hl 1 rfl) ?_
      refine g_N_9 hx hb hts hown hK S.1 d_N_branchTo_25 ?_
      refine lv_bipush (v := 15) hx hb d_N_branchTo_28 (by decide) ?_
      refine lv_aload_n hx hb d_N_branchTo_30 rfl (lv_at hl 1 rfl) ?_
      refine g_N_9 hx hb hts hown hK S.1 d_N_branchTo_31 ?_
      refine lv_iload_n hx hb d_N_branchTo_34 rfl (lv_at hl 0 rfl) ?_
      refine ld_C_1 (k := (((v1 >>> ((3 : Int32) &&& 31)) &&& (15 : Int32))).toNatClampNeg) hx hb hK S.1 (vin_and15_16 _) rfl d_N_branchTo_35 ?_
      refine st_C_1 (k := 15) hx hb hK S (vin_dec (by decide)) (by decide) d_N_branchTo_36 (fun H locs S => ?_)
      refine lv_iconst (v := 0) hx hb d_N_branchTo_37 (by decide) ?_
      exact ret _ _ _ _ _ _ S hq d_N_branchTo_38
    · have hq := hq.trans (if_pos h18)
      exact B_N_branchTo_21 _ _ _ _ (lv_sub hl [] rfl) S hq
set_option maxHeartbeats 4000000 in
set_option maxRecDepth 100000 in
theorem c_N_copyOrBranch (v1 : Int32) (σ : nS) : CtI l D cI cZ (wC cI cZ a) (exC t) y_N_copyOrBranch b_N_copyOrBranch 2 { frames := 1, cells := 0, slots := 0, locals := 23 } [.ref (a 0), .int v1] σ (s_N_copyOrBranch v1 σ) := by
  generalize hF : s_N_copyOrBranch v1 σ = F
  refine metI (exC_ok t) (by decide) (Nat.le_of_ble_eq_true rfl) (fun p e s m args below meth c A Q ls X S hl ret => ?_)
  have hq := hF.symm
  obtain ⟨hx, hb, hml, hown, hts, hK, hA, hE, hlk, hEo⟩ := id X
  have hl : lv_has ls 2 [(0, .ref (a 0)), (1, .int v1)] := hl
  refine lv_iload_n hx hb d_N_copyOrBranch_0 rfl (lv_at hl 1 rfl) ?_
  refine lv_bipush (v := 8) hx hb d_N_copyOrBranch_1 (by decide) ?_
  refine lv_ishr hx hb d_N_copyOrBranch_3 ?_
  by_cases h4_70 : (v1 >>> ((8 : Int32) &&& 31)) = (70 : Int32)
  · have hq := hq.trans (if_pos h4_70)
    refine lv_lookup (off := 28) (tgt := 32) hx hb d_N_copyOrBranch_4 (by decide) (by rw [h4_70]; decide) rfl ?_
    refine lv_aload_n hx hb d_N_copyOrBranch_32 rfl (lv_at hl 0 rfl) ?_
    refine lv_iload_n hx hb d_N_copyOrBranch_33 rfl (lv_at hl 1 rfl) ?_
    refine callVI X S hl (c_N_copyAny v1 _) v_N_271 0 0 ⟨rfl, rfl⟩ (rk_dec (by decide)) rfl rfl (Nat.le_of_ble_eq_true rfl) d_N_copyOrBranch_34 (fun r1 σ1 H locs e1 S => ?_)
    have hq := hq.trans (ap2_eq e1)
    exact ret _ _ _ _ _ _ S hq d_N_copyOrBranch_37
  · have hq := hq.trans (if_neg h4_70)
    by_cases h4_71 : (v1 >>> ((8 : Int32) &&& 31)) = (71 : Int32)
    · have hq := hq.trans (if_pos h4_71)
      refine lv_lookup (off := 34) (tgt := 38) hx hb d_N_copyOrBranch_4 (by decide) (by rw [h4_71]; decide) rfl ?_
      refine lv_aload_n hx hb d_N_copyOrBranch_38 rfl (lv_at hl 0 rfl) ?_
      refine lv_iload_n hx hb d_N_copyOrBranch_39 rfl (lv_at hl 1 rfl) ?_
      refine callVI X S hl (c_N_branchTo v1 _) v_N_274 0 0 ⟨rfl, rfl⟩ (rk_dec (by decide)) rfl rfl (Nat.le_of_ble_eq_true rfl) d_N_copyOrBranch_40 (fun r1 σ1 H locs e1 S => ?_)
      have hq := hq.trans (ap2_eq e1)
      exact ret _ _ _ _ _ _ S hq d_N_copyOrBranch_43
    · have hq := hq.trans (if_neg h4_71)
      refine lv_lookup (off := 40) (tgt := 44) hx hb d_N_copyOrBranch_4 (by decide) (by refine (lv_osw h4_70 (by decide)).trans ?_; refine (lv_osw h4_71 (by decide)).trans ?_; rfl) rfl ?_
      refine lv_bipush (v := 6) hx hb d_N_copyOrBranch_44 (by decide) ?_
      exact ret _ _ _ _ _ _ S hq d_N_copyOrBranch_46
end CT
