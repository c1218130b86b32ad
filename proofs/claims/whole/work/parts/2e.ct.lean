section CT
variable {l : Launch} {D : va_G} {cI cZ : ClassId} {a : Nat → Nat} {t : Nat}
set_option maxHeartbeats 4000000 in
set_option maxRecDepth 100000 in
theorem c_N_pop (v1 : Int32) (σ : nS) (hok : o_N_pop v1 σ) : CtI l D cI cZ (wC cI cZ a) (exC t) y_N_pop b_N_pop 6 { frames := 2, cells := 0, slots := 0, locals := 48 } [.ref (a 0), .int v1] σ (s_N_pop v1 σ) := by
  generalize hF : s_N_pop v1 σ = F
  refine metI (exC_ok t) (by decide) (Nat.le_of_ble_eq_true rfl) (fun p e s m args below meth c A Q ls X S hl ret => ?_)
  have hq := hF.symm
  obtain ⟨hx, hb, hml, hown, hts, hK, hA, hE, hlk, hEo⟩ := id X
  have hl : lv_has ls 6 [(0, .ref (a 0)), (1, .int v1)] := hl
  have B_N_pop_40_9 : ∀ (v1 : Int32) (v3 : Int32) (σ : nS) (H : Heap) (locs : List Loc) (ls : Array Slot), (o_N_pop_40_9 v1 v3 σ) → lv_has ls 6 [(0, .ref (a 0)), (1, .int v1), (3, .int v3), (5, .int (9 : Int32))] → St D (wC cI cZ a) A s σ H locs → F = s_N_pop_40_9 v1 v3 σ → W p l e ({ frames := 2, cells := 0, slots := 0, locals := 48 } : Room) s m args below meth c H locs 0 0 Q (F0 m 40 ls []) := by
    intro v1 v3 σ H locs ls hok hl S hq
    refine lv_iload hx hb d_N_pop_40 (lv_at hl 3 rfl) ?_
    refine lv_bipush (v := 8) hx hb d_N_pop_42 (by decide) ?_
    refine lv_icmp_gt (tgt := 92) hx hb d_N_pop_44 rfl (fun _ => ?_) (fun h9 => absurd (by decide) h9)
    refine lv_aload_n hx hb d_N_pop_92 rfl (lv_at hl 0 rfl) ?_
    refine g_N_9 hx hb hts hown hK S.1 d_N_pop_93 ?_
    refine lv_bipush (v := 13) hx hb d_N_pop_96 (by decide) ?_
    refine lv_iload_n hx hb d_N_pop_98 rfl (lv_at hl 2 rfl) ?_
    refine st_C_1 (k := 13) hx hb hK S (vin_dec (by decide)) (by decide) d_N_pop_99 (fun H locs S => ?_)
    refine lv_iconst (v := 0) hx hb d_N_pop_100 (by decide) ?_
    exact ret _ _ _ _ _ _ S hq d_N_pop_101
  have B_N_pop_86_8 : ∀ (v1 : Int32) (v3 : Int32) (σ : nS) (H : Heap) (locs : List Loc) (ls : Array Slot), (o_N_pop_86_8 v1 v3 σ) → lv_has ls 6 [(0, .ref (a 0)), (1, .int v1), (3, .int v3), (5, .int (8 : Int32))] → St D (wC cI cZ a) A s σ H locs → F = s_N_pop_86_8 v1 v3 σ → W p l e ({ frames := 2, cells := 0, slots := 0, locals := 48 } : Room) s m args below meth c H locs 0 0 Q (F0 m 86 ls []) := by
    intro v1 v3 σ H locs ls hok hl S hq
    refine lv_iinc (k := 3) (v := (9 : Int32)) hx hb d_N_pop_86 hl rfl (by first | rfl | decide) (by decide) rfl (fun ls hl => ?_)
    refine lv_goto (tgt := 40) hx hb d_N_pop_89 rfl ?_
    exact B_N_pop_40_9 _ _ _ _ _ _ hok (lv_sub hl [1, 2, 3, 0] rfl) S hq
  have B_N_pop_74_8 : ∀ (v1 : Int32) (v3 : Int32) (σ : nS) (H : Heap) (locs : List Loc) (ls : Array Slot), (o_N_pop_74_8 v1 v3 σ) → lv_has ls 6 [(0, .ref (a 0)), (1, .int v1), (3, .int v3), (5, .int (8 : Int32))] → St D (wC cI cZ a) A s σ H locs → F = s_N_pop_74_8 v1 v3 σ → W p l e ({ frames := 2, cells := 0, slots := 0, locals := 48 } : Room) s m args below meth c H locs 0 0 Q (F0 m 74 ls [.int (15 : Int32), .ref (a 1)]) := by
    intro v1 v3 σ H locs ls hok hl S hq
    refine lv_aload_n hx hb d_N_pop_74 rfl (lv_at hl 0 rfl) ?_
    refine g_N_19 hx hb hts hown hK S.1 d_N_pop_75 ?_
    refine lv_iload_n hx hb d_N_pop_78 rfl (lv_at hl 2 rfl) ?_
    refine callVIp X S hl (c_Me_load v3 _) v_N_66 3 1 ⟨rfl, rfl⟩ (rk_dec (by decide)) rfl rfl (Nat.le_of_ble_eq_true rfl) d_N_pop_79 (fun H locs S => ?_)
    refine st_C_1 (k := 15) hx hb hK S (vin_dec (by decide)) (by decide) d_N_pop_82 (fun H locs S => ?_)
    refine lv_iinc (k := 2) (v := (v3 + (4 : Int32))) hx hb d_N_pop_83 hl rfl (by first | rfl | decide) (by decide) rfl (fun ls hl => ?_)
    exact B_N_pop_86_8 _ _ _ _ _ _ hok (lv_sub hl [1, 2, 0, 3] rfl) S hq
  have B_N_pop_40_8 : ∀ (v1 : Int32) (v3 : Int32) (σ : nS) (H : Heap) (locs : List Loc) (ls : Array Slot), (o_N_pop_40_8 v1 v3 σ) → lv_has ls 6 [(0, .ref (a 0)), (1, .int v1), (3, .int v3), (5, .int (8 : Int32))] → St D (wC cI cZ a) A s σ H locs → F = s_N_pop_40_8 v1 v3 σ → W p l e ({ frames := 2, cells := 0, slots := 0, locals := 48 } : Room) s m args below meth c H locs 0 0 Q (F0 m 40 ls []) := by
    intro v1 v3 σ H locs ls hok hl S hq
    refine lv_iload hx hb d_N_pop_40 (lv_at hl 3 rfl) ?_
    refine lv_bipush (v := 8) hx hb d_N_pop_42 (by decide) ?_
    refine lv_icmp_gt (tgt := 92) hx hb d_N_pop_44 rfl (fun h9 => absurd h9 (by decide)) (fun _ => ?_)
    refine lv_iload_n hx hb d_N_pop_47 rfl (lv_at hl 1 rfl) ?_
    refine lv_iload hx hb d_N_pop_48 (lv_at hl 3 rfl) ?_
    refine lv_ishr hx hb d_N_pop_50 ?_
    refine lv_iconst (v := 1) hx hb d_N_pop_51 (by decide) ?_
    refine lv_iand hx hb d_N_pop_52 ?_
    refine lv_if_eq (tgt := 86) hx hb d_N_pop_53 rfl (fun h53 => ?_) (fun h53 => ?_)
    · have hq := hq.trans (if_pos h53)
      have hok := ok_pos h53 hok
      exact B_N_pop_86_8 _ _ _ _ _ _ hok (lv_sub hl [0, 1, 2, 3] rfl) S hq
    · have hq := hq.trans (if_neg h53)
      have hok := ok_neg h53 hok
      refine lv_aload_n hx hb d_N_pop_56 rfl (lv_at hl 0 rfl) ?_
      refine g_N_9 hx hb hts hown hK S.1 d_N_pop_57 ?_
      refine lv_iload hx hb d_N_pop_60 (lv_at hl 3 rfl) ?_
      refine lv_bipush (v := 8) hx hb d_N_pop_62 (by decide) ?_
      refine lv_icmp_ne (tgt := 72) hx hb d_N_pop_64 rfl (fun h9 => absurd (by decide) h9) (fun _ => ?_)
      refine lv_bipush (v := 15) hx hb d_N_pop_67 (by decide) ?_
      refine lv_goto (tgt := 74) hx hb d_N_pop_69 rfl ?_
      exact B_N_pop_74_8 _ _ _ _ _ _ hok (lv_sub hl [0, 1, 2, 3] rfl) S hq
  have B_N_pop_86_7 : ∀ (v1 : Int32) (v3 : Int32) (σ : nS) (H : Heap) (locs : List Loc) (ls : Array Slot), (o_N_pop_86_7 v1 v3 σ) → lv_has ls 6 [(0, .ref (a 0)), (1, .int v1), (3, .int v3), (5, .int (7 : Int32))] → St D (wC cI cZ a) A s σ H locs → F = s_N_pop_86_7 v1 v3 σ → W p l e ({ frames := 2, cells := 0, slots := 0, locals := 48 } : Room) s m args below meth c H locs 0 0 Q (F0 m 86 ls []) := by
    intro v1 v3 σ H locs ls hok hl S hq
    refine lv_iinc (k := 3) (v := (8 : Int32)) hx hb d_N_pop_86 hl rfl (by first | rfl | decide) (by decide) rfl (fun ls hl => ?_)
    refine lv_goto (tgt := 40) hx hb d_N_pop_89 rfl ?_
    exact B_N_pop_40_8 _ _ _ _ _ _ hok (lv_sub hl [1, 2, 3, 0] rfl) S hq
  have B_N_pop_74_7 : ∀ (v1 : Int32) (v3 : Int32) (σ : nS) (H : Heap) (locs : List Loc) (ls : Array Slot), (o_N_pop_74_7 v1 v3 σ) → lv_has ls 6 [(0, .ref (a 0)), (1, .int v1), (3, .int v3), (5, .int (7 : Int32))] → St D (wC cI cZ a) A s σ H locs → F = s_N_pop_74_7 v1 v3 σ → W p l e ({ frames := 2, cells := 0, slots := 0, locals := 48 } : Room) s m args below meth c H locs 0 0 Q (F0 m 74 ls [.int (7 : Int32), .ref (a 1)]) := by
    intro v1 v3 σ H locs ls hok hl S hq
    refine lv_aload_n hx hb d_N_pop_74 rfl (lv_at hl 0 rfl) ?_
    refine g_N_19 hx hb hts hown hK S.1 d_N_pop_75 ?_
    refine lv_iload_n hx hb d_N_pop_78 rfl (lv_at hl 2 rfl) ?_
    refine callVIp X S hl (c_Me_load v3 _) v_N_66 3 1 ⟨rfl, rfl⟩ (rk_dec (by decide)) rfl rfl (Nat.le_of_ble_eq_true rfl) d_N_pop_79 (fun H locs S => ?_)
    refine st_C_1 (k := 7) hx hb hK S (vin_dec (by decide)) (by decide) d_N_pop_82 (fun H locs S => ?_)
    refine lv_iinc (k := 2) (v := (v3 + (4 : Int32))) hx hb d_N_pop_83 hl rfl (by first | rfl | decide) (by decide) rfl (fun ls hl => ?_)
    exact B_N_pop_86_7 _ _ _ _ _ _ hok (lv_sub hl [1, 2, 0, 3] rfl) S hq
  have B_N_pop_40_7 : ∀ (v1 : Int32) (v3 : Int32) (σ : nS) (H : Heap) (locs : List Loc) (ls : Array Slot), (o_N_pop_40_7 v1 v3 σ) → lv_has ls 6 [(0, .ref (a 0)), (1, .int v1), (3, .int v3), (5, .int (7 : Int32))] → St D (wC cI cZ a) A s σ H locs → F = s_N_pop_40_7 v1 v3 σ → W p l e ({ frames := 2, cells := 0, slots := 0, locals := 48 } : Room) s m args below meth c H locs 0 0 Q (F0 m 40 ls []) := by
    intro v1 v3 σ H locs ls hok hl S hq
    refine lv_iload hx hb d_N_pop_40 (lv_at hl 3 rfl) ?_
    refine lv_bipush (v := 8) hx hb d_N_pop_42 (by decide) ?_
    refine lv_icmp_gt (tgt := 92) hx hb d_N_pop_44 rfl (fun h9 => absurd h9 (by decide)) (fun _ => ?_)
    refine lv_iload_n hx hb d_N_pop_47 rfl (lv_at hl 1 rfl) ?_
    refine lv_iload hx hb d_N_pop_48 (lv_at hl 3 rfl) ?_
    refine lv_ishr hx hb d_N_pop_50 ?_
    refine lv_iconst (v := 1) hx hb d_N_pop_51 (by decide) ?_
    refine lv_iand hx hb d_N_pop_52 ?_
    refine lv_if_eq (tgt := 86) hx hb d_N_pop_53 rfl (fun h53 => ?_) (fun h53 => ?_)
    · have hq := hq.trans (if_pos h53)
      have hok := ok_pos h53 hok
      exact B_N_pop_86_7 _ _ _ _ _ _ hok (lv_sub hl [0, 1, 2, 3] rfl) S hq
    · have hq := hq.trans (if_neg h53)
      have hok := ok_neg h53 hok
      refine lv_aload_n hx hb d_N_pop_56 rfl (lv_at hl 0 rfl) ?_
      refine g_N_9 hx hb hts hown hK S.1 d_N_pop_57 ?_
      refine lv_iload hx hb d_N_pop_60 (lv_at hl 3 rfl) ?_
      refine lv_bipush (v := 8) hx hb d_N_pop_62 (by decide) ?_
      refine lv_icmp_ne (tgt := 72) hx hb d_N_pop_64 rfl (fun _ => ?_) (fun h9 => absurd h9 (by decide))
      refine lv_iload hx hb d_N_pop_72 (lv_at hl 3 rfl) ?_
      exact B_N_pop_74_7 _ _ _ _ _ _ hok (lv_sub hl [0, 1, 2, 3] rfl) S hq
  have B_N_pop_86_6 : ∀ (v1 : Int32) (v3 : Int32) (σ : nS) (H : Heap) (locs : List Loc) (ls : Array Slot), (o_N_pop_86_6 v1 v3 σ) → lv_has ls 6 [(0, .ref (a 0)), (1, .int v1), (3, .int v3), (5, .int (6 : Int32))] → St D (wC cI cZ a) A s σ H locs → F = s_N_pop_86_6 v1 v3 σ → W p l e ({ frames := 2, cells := 0, slots := 0, locals := 48 } : Room) s m args below meth c H locs 0 0 Q (F0 m 86 ls []) := by
    intro v1 v3 σ H locs ls hok hl S hq
    refine lv_iinc (k := 3) (v := (7 : Int32)) hx hb d_N_pop_86 hl rfl (by first | rfl | decide) (by decide) rfl (fun ls hl => ?_)
    refine lv_goto (tgt := 40) hx hb d_N_pop_89 rfl ?_
    exact B_N_pop_40_7 _ _ _ _ _ _ hok (lv_sub hl [1, 2, 3, 0] rfl) S hq
  have B_N_pop_74_6 : ∀ (v1 : Int32) (v3 : Int32) (σ : nS) (H : Heap) (locs : List Loc) (ls : Array Slot), (o_N_pop_74_6 v1 v3 σ) → lv_has ls 6 [(0, .ref (a 0)), (1, .int v1), (3, .int v3), (5, .int (6 : Int32))] → St D (wC cI cZ a) A s σ H locs → F = s_N_pop_74_6 v1 v3 σ → W p l e ({ frames := 2, cells := 0, slots := 0, locals := 48 } : Room) s m args below meth c H locs 0 0 Q (F0 m 74 ls [.int (6 : Int32), .ref (a 1)]) := by
    intro v1 v3 σ H locs ls hok hl S hq
    refine lv_aload_n hx hb d_N_pop_74 rfl (lv_at hl 0 rfl) ?_
    refine g_N_19 hx hb hts hown hK S.1 d_N_pop_75 ?_
    refine lv_iload_n hx hb d_N_pop_78 rfl (lv_at hl 2 rfl) ?_
    refine callVIp X S hl (c_Me_load v3 _) v_N_66 3 1 ⟨rfl, rfl⟩ (rk_dec (by decide)) rfl rfl (Nat.le_of_ble_eq_true rfl) d_N_pop_79 (fun H locs S => ?_)
    refine st_C_1 (k := 6) hx hb hK S (vin_dec (by decide)) (by decide) d_N_pop_82 (fun H locs S => ?_)
    refine lv_iinc (k := 2) (v := (v3 + (4 : Int32))) hx hb d_N_pop_83 hl rfl (by first | rfl | decide) (by decide) rfl (fun ls hl => ?_)
    exact B_N_pop_86_6 _ _ _ _ _ _ hok (lv_sub hl [1, 2, 0, 3] rfl) S hq
  have B_N_pop_40_6 : ∀ (v1 : Int32) (v3 : Int32) (σ : nS) (H : Heap) (locs : List Loc) (ls : Array Slot), (o_N_pop_40_6 v1 v3 σ) → lv_has ls 6 [(0, .ref (a 0)), (1, .int v1), (3, .int v3), (5, .int (6 : Int32))] → St D (wC cI cZ a) A s σ H locs → F = s_N_pop_40_6 v1 v3 σ → W p l e ({ frames := 2, cells := 0, slots := 0, locals := 48 } : Room) s m args below meth c H locs 0 0 Q (F0 m 40 ls []) := by
    intro v1 v3 σ H locs ls hok hl S hq
    refine lv_iload hx hb d_N_pop_40 (lv_at hl 3 rfl) ?_
    refine lv_bipush (v := 8) hx hb d_N_pop_42 (by decide) ?_
    refine lv_icmp_gt (tgt := 92) hx hb d_N_pop_44 rfl (fun h9 => absurd h9 (by decide)) (fun _ => ?_)
    refine lv_iload_n hx hb d_N_pop_47 rfl (lv_at hl 1 rfl) ?_
    refine lv_iload hx hb d_N_pop_48 (lv_at hl 3 rfl) ?_
    refine lv_ishr hx hb d_N_pop_50 ?_
    refine lv_iconst (v := 1) hx hb d_N_pop_51 (by decide) ?_
    refine lv_iand hx hb d_N_pop_52 ?_
    refine lv_if_eq (tgt := 86) hx hb d_N_pop_53 rfl (fun h53 => ?_) (fun h53 => ?_)
    · have hq := hq.trans (if_pos h53)
      have hok := ok_pos h53 hok
      exact B_N_pop_86_6 _ _ _ _ _ _ hok (lv_sub hl [0, 1, 2, 3] rfl) S hq
    · have hq := hq.trans (if_neg h53)
      have hok := ok_neg h53 hok
      refine lv_aload_n hx hb d_N_pop_56 rfl (lv_at hl 0 rfl) ?_
      refine g_N_9 hx hb hts hown hK S.1 d_N_pop_57 ?_
      refine lv_iload hx hb d_N_pop_60 (lv_at hl 3 rfl) ?_
      refine lv_bipush (v := 8) hx hb d_N_pop_62 (by decide) ?_
      refine lv_icmp_ne (tgt := 72) hx hb d_N_pop_64 rfl (fun _ => ?_) (fun h9 => absurd h9 (by decide))
      refine lv_iload hx hb d_N_pop_72 (lv_at hl 3 rfl) ?_
      exact B_N_pop_74_6 _ _ _ _ _ _ hok (lv_sub hl [0, 1, 2, 3] rfl) S hq
  have B_N_pop_86_5 : ∀ (v1 : Int32) (v3 : Int32) (σ : nS) (H : Heap) (locs : List Loc) (ls : Array Slot), (o_N_pop_86_5 v1 v3 σ) → lv_has ls 6 [(0, .ref (a 0)), (1, .int v1), (3, .int v3), (5, .int (5 : Int32))] → St D (wC cI cZ a) A s σ H locs → F = s_N_pop_86_5 v1 v3 σ → W p l e ({ frames := 2, cells := 0, slots := 0, locals := 48 } : Room) s m args below meth c H locs 0 0 Q (F0 m 86 ls []) := by
    intro v1 v3 σ H locs ls hok hl S hq
    refine lv_iinc (k := 3) (v := (6 : Int32)) hx hb d_N_pop_86 hl rfl (by first | rfl | decide) (by decide) rfl (fun ls hl => ?_)
    refine lv_goto (tgt := 40) hx hb d_N_pop_89 rfl ?_
    exact B_N_pop_40_6 _ _ _ _ _ _ hok (lv_sub hl [1, 2, 3, 0] rfl) S hq
  have B_N_pop_74_5 : ∀ (v1 : Int32) (v3 : Int32) (σ : nS) (H : Heap) (locs : List Loc) (ls : Array Slot), (o_N_pop_74_5 v1 v3 σ) → lv_has ls 6 [(0, .ref (a 0)), (1, .int v1), (3, .int v3), (5, .int (5 : Int32))] → St D (wC cI cZ a) A s σ H locs → F = s_N_pop_74_5 v1 v3 σ → W p l e ({ frames := 2, cells := 0, slots := 0, locals := 48 } : Room) s m args below meth c H locs 0 0 Q (F0 m 74 ls [.int (5 : Int32), .ref (a 1)]) := by
    intro v1 v3 σ H locs ls hok hl S hq
    refine lv_aload_n hx hb d_N_pop_74 rfl (lv_at hl 0 rfl) ?_
    refine g_N_19 hx hb hts hown hK S.1 d_N_pop_75 ?_
    refine lv_iload_n hx hb d_N_pop_78 rfl (lv_at hl 2 rfl) ?_
    refine callVIp X S hl (c_Me_load v3 _) v_N_66 3 1 ⟨rfl, rfl⟩ (rk_dec (by decide)) rfl rfl (Nat.le_of_ble_eq_true rfl) d_N_pop_79 (fun H locs S => ?_)
    refine st_C_1 (k := 5) hx hb hK S (vin_dec (by decide)) (by decide) d_N_pop_82 (fun H locs S => ?_)
    refine lv_iinc (k := 2) (v := (v3 + (4 : Int32))) hx hb d_N_pop_83 hl rfl (by first | rfl | decide) (by decide) rfl (fun ls hl => ?_)
    exact B_N_pop_86_5 _ _ _ _ _ _ hok (lv_sub hl [1, 2, 0, 3] rfl) S hq
  have B_N_pop_40_5 : ∀ (v1 : Int32) (v3 : Int32) (σ : nS) (H : Heap) (locs : List Loc) (ls : Array Slot), (o_N_pop_40_5 v1 v3 σ) → lv_has ls 6 [(0, .ref (a 0)), (1, .int v1), (3, .int v3), (5, .int (5 : Int32))] → St D (wC cI cZ a) A s σ H locs → F = s_N_pop_40_5 v1 v3 σ → W p l e ({ frames := 2, cells := 0, slots := 0, locals := 48 } : Room) s m args below meth c H locs 0 0 Q (F0 m 40 ls []) := by
    intro v1 v3 σ H locs ls hok hl S hq
    refine lv_iload hx hb d_N_pop_40 (lv_at hl 3 rfl) ?_
    refine lv_bipush (v := 8) hx hb d_N_pop_42 (by decide) ?_
    refine lv_icmp_gt (tgt := 92) hx hb d_N_pop_44 rfl (fun h9 => absurd h9 (by decide)) (fun _ => ?_)
    refine lv_iload_n hx hb d_N_pop_47 rfl (lv_at hl 1 rfl) ?_
    refine lv_iload hx hb d_N_pop_48 (lv_at hl 3 rfl) ?_
    refine lv_ishr hx hb d_N_pop_50 ?_
    refine lv_iconst (v := 1) hx hb d_N_pop_51 (by decide) ?_
    refine lv_iand hx hb d_N_pop_52 ?_
    refine lv_if_eq (tgt := 86) hx hb d_N_pop_53 rfl (fun h53 => ?_) (fun h53 => ?_)
    · have hq := hq.trans (if_pos h53)
      have hok := ok_pos h53 hok
      exact B_N_pop_86_5 _ _ _ _ _ _ hok (lv_sub hl [0, 1, 2, 3] rfl) S hq
    · have hq := hq.trans (if_neg h53)
      have hok := ok_neg h53 hok
      refine lv_aload_n hx hb d_N_pop_56 rfl (lv_at hl 0 rfl) ?_
      refine g_N_9 hx hb hts hown hK S.1 d_N_pop_57 ?_
      refine lv_iload hx hb d_N_pop_60 (lv_at hl 3 rfl) ?_
      refine lv_bipush (v := 8) hx hb d_N_pop_62 (by decide) ?_
      refine lv_icmp_ne (tgt := 72) hx hb d_N_pop_64 rfl (fun _ => ?_) (fun h9 => absurd h9 (by decide))
      refine lv_iload hx hb d_N_pop_72 (lv_at hl 3 rfl) ?_
      exact B_N_pop_74_5 _ _ _ _ _ _ hok (lv_sub hl [0, 1, 2, 3] rfl) S hq
  have B_N_pop_86_4 : ∀ (v1 : Int32) (v3 : Int32) (σ : nS) (H : Heap) (locs : List Loc) (ls : Array Slot), (o_N_pop_86_4 v1 v3 σ) → lv_has ls 6 [(0, .ref (a 0)), (1, .int v1), (3, .int v3), (5, .int (4 : Int32))] → St D (wC cI cZ a) A s σ H locs → F = s_N_pop_86_4 v1 v3 σ → W p l e ({ frames := 2, cells := 0, slots := 0, locals := 48 } : Room) s m args below meth c H locs 0 0 Q (F0 m 86 ls []) := by
    intro v1 v3 σ H locs ls hok hl S hq
    refine lv_iinc (k := 3) (v := (5 : Int32)) hx hb d_N_pop_86 hl rfl (by first | rfl | decide) (by decide) rfl (fun ls hl => ?_)
    refine lv_goto (tgt := 40) hx hb d_N_pop_89 rfl ?_
    exact B_N_pop_40_5 _ _ _ _ _ _ hok (lv_sub hl [1, 2, 3, 0] rfl) S hq
  have B_N_pop_74_4 : ∀ (v1 : Int32) (v3 : Int32) (σ : nS) (H : Heap) (locs : List Loc) (ls : Array Slot), (o_N_pop_74_4 v1 v3 σ) → lv_has ls 6 [(0, .ref (a 0)), (1, .int v1), (3, .int v3), (5, .int (4 : Int32))] → St D (wC cI cZ a) A s σ H locs → F = s_N_pop_74_4 v1 v3 σ → W p l e ({ frames := 2, cells := 0, slots := 0, locals := 48 } : Room) s m args below meth c H locs 0 0 Q (F0 m 74 ls [.int (4 : Int32), .ref (a 1)]) := by
    intro v1 v3 σ H locs ls hok hl S hq
    refine lv_aload_n hx hb d_N_pop_74 rfl (lv_at hl 0 rfl) ?_
    refine g_N_19 hx hb hts hown hK S.1 d_N_pop_75 ?_
    refine lv_iload_n hx hb d_N_pop_78 rfl (lv_at hl 2 rfl) ?_
    refine callVIp X S hl (c_Me_load v3 _) v_N_66 3 1 ⟨rfl, rfl⟩ (rk_dec (by decide)) rfl rfl (Nat.le_of_ble_eq_true rfl) d_N_pop_79 (fun H locs S => ?_)
    refine st_C_1 (k := 4) hx hb hK S (vin_dec (by decide)) (by decide) d_N_pop_82 (fun H locs S => ?_)
    refine lv_iinc (k := 2) (v := (v3 + (4 : Int32))) hx hb d_N_pop_83 hl rfl (by first | rfl | decide) (by decide) rfl (fun ls hl => ?_)
    exact B_N_pop_86_4 _ _ _ _ _ _ hok (lv_sub hl [1, 2, 0, 3] rfl) S hq
  have B_N_pop_40_4 : ∀ (v1 : Int32) (v3 : Int32) (σ : nS) (H : Heap) (locs : List Loc) (ls : Array Slot), (o_N_pop_40_4 v1 v3 σ) → lv_has ls 6 [(0, .ref (a 0)), (1, .int v1), (3, .int v3), (5, .int (4 : Int32))] → St D (wC cI cZ a) A s σ H locs → F = s_N_pop_40_4 v1 v3 σ → W p l e ({ frames := 2, cells := 0, slots := 0, locals := 48 } : Room) s m args below meth c H locs 0 0 Q (F0 m 40 ls []) := by
    intro v1 v3 σ H locs ls hok hl S hq
    refine lv_iload hx hb d_N_pop_40 (lv_at hl 3 rfl) ?_
    refine lv_bipush (v := 8) hx hb d_N_pop_42 (by decide) ?_
    refine lv_icmp_gt (tgt := 92) hx hb d_N_pop_44 rfl (fun h9 => absurd h9 (by decide)) (fun _ => ?_)
    refine lv_iload_n hx hb d_N_pop_47 rfl (lv_at hl 1 rfl) ?_
    refine lv_iload hx hb d_N_pop_48 (lv_at hl 3 rfl) ?_
    refine lv_ishr hx hb d_N_pop_50 ?_
    refine lv_iconst (v := 1) hx hb d_N_pop_51 (by decide) ?_
    refine lv_iand hx hb d_N_pop_52 ?_
    refine lv_if_eq (tgt := 86) hx hb d_N_pop_53 rfl (fun h53 => ?_) (fun h53 => ?_)
    · have hq := hq.trans (if_pos h53)
      have hok := ok_pos h53 hok
      exact B_N_pop_86_4 _ _ _ _ _ _ hok (lv_sub hl [0, 1, 2, 3] rfl) S hq
    · have hq := hq.trans (if_neg h53)
      have hok := ok_neg h53 hok
      refine lv_aload_n hx hb d_N_pop_56 rfl (lv_at hl 0 rfl) ?_
      refine g_N_9 hx hb hts hown hK S.1 d_N_pop_57 ?_
      refine lv_iload hx hb d_N_pop_60 (lv_at hl 3 rfl) ?_
      refine lv_bipush (v := 8) hx hb d_N_pop_62 (by decide) ?_
      refine lv_icmp_ne (tgt := 72) hx hb d_N_pop_64 rfl (fun _ => ?_) (fun h9 => absurd h9 (by decide))
      refine lv_iload hx hb d_N_pop_72 (lv_at hl 3 rfl) ?_
      exact B_N_pop_74_4 _ _ _ _ _ _ hok (lv_sub hl [0, 1, 2, 3] rfl) S hq
  have B_N_pop_86_3 : ∀ (v1 : Int32) (v3 : Int32) (σ : nS) (H : Heap) (locs : List Loc) (ls : Array Slot), (o_N_pop_86_3 v1 v3 σ) → lv_has ls 6 [(0, .ref (a 0)), (1, .int v1), (3, .int v3), (5, .int (3 : Int32))] → St D (wC cI cZ a) A s σ H locs → F = s_N_pop_86_3 v1 v3 σ → W p l e ({ frames := 2, cells := 0, slots := 0, locals := 48 } : Room) s m args below meth c H locs 0 0 Q (F0 m 86 ls []) := by
    intro v1 v3 σ H locs ls hok hl S hq
    refine lv_iinc (k := 3) (v := (4 : Int32)) hx hb d_N_pop_86 hl rfl (by first | rfl | decide) (by decide) rfl (fun ls hl => ?_)
    refine lv_goto (tgt := 40) hx hb d_N_pop_89 rfl ?_
    exact B_N_pop_40_4 _ _ _ _ _ _ hok (lv_sub hl [1, 2, 3, 0] rfl) S hq
  have B_N_pop_74_3 : ∀ (v1 : Int32) (v3 : Int32) (σ : nS) (H : Heap) (locs : List Loc) (ls : Array Slot), (o_N_pop_74_3 v1 v3 σ) → lv_has ls 6 [(0, .ref (a 0)), (1, .int v1), (3, .int v3), (5, .int (3 : Int32))] → St D (wC cI cZ a) A s σ H locs → F = s_N_pop_74_3 v1 v3 σ → W p l e ({ frames := 2, cells := 0, slots := 0, locals := 48 } : Room) s m args below meth c H locs 0 0 Q (F0 m 74 ls [.int (3 : Int32), .ref (a 1)]) := by
    intro v1 v3 σ H locs ls hok hl S hq
    refine lv_aload_n hx hb d_N_pop_74 rfl (lv_at hl 0 rfl) ?_
    refine g_N_19 hx hb hts hown hK S.1 d_N_pop_75 ?_
    refine lv_iload_n hx hb d_N_pop_78 rfl (lv_at hl 2 rfl) ?_
    refine callVIp X S hl (c_Me_load v3 _) v_N_66 3 1 ⟨rfl, rfl⟩ (rk_dec (by decide)) rfl rfl (Nat.le_of_ble_eq_true rfl) d_N_pop_79 (fun H locs S => ?_)
    refine st_C_1 (k := 3) hx hb hK S (vin_dec (by decide)) (by decide) d_N_pop_82 (fun H locs S => ?_)
    refine lv_iinc (k := 2) (v := (v3 + (4 : Int32))) hx hb d_N_pop_83 hl rfl (by first | rfl | decide) (by decide) rfl (fun ls hl => ?_)
    exact B_N_pop_86_3 _ _ _ _ _ _ hok (lv_sub hl [1, 2, 0, 3] rfl) S hq
  have B_N_pop_40_3 : ∀ (v1 : Int32) (v3 : Int32) (σ : nS) (H : Heap) (locs : List Loc) (ls : Array Slot), (o_N_pop_40_3 v1 v3 σ) → lv_has ls 6 [(0, .ref (a 0)), (1, .int v1), (3, .int v3), (5, .int (3 : Int32))] → St D (wC cI cZ a) A s σ H locs → F = s_N_pop_40_3 v1 v3 σ → W p l e ({ frames := 2, cells := 0, slots := 0, locals := 48 } : Room) s m args below meth c H locs 0 0 Q (F0 m 40 ls []) := by
    intro v1 v3 σ H locs ls hok hl S hq
    refine lv_iload hx hb d_N_pop_40 (lv_at hl 3 rfl) ?_
    refine lv_bipush (v := 8) hx hb d_N_pop_42 (by decide) ?_
    refine lv_icmp_gt (tgt := 92) hx hb d_N_pop_44 rfl (fun h9 => absurd h9 (by decide)) (fun _ => ?_)
    refine lv_iload_n hx hb d_N_pop_47 rfl (lv_at hl 1 rfl) ?_
    refine lv_iload hx hb d_N_pop_48 (lv_at hl 3 rfl) ?_
    refine lv_ishr hx hb d_N_pop_50 ?_
    refine lv_iconst (v := 1) hx hb d_N_pop_51 (by decide) ?_
    refine lv_iand hx hb d_N_pop_52 ?_
    refine lv_if_eq (tgt := 86) hx hb d_N_pop_53 rfl (fun h53 => ?_) (fun h53 => ?_)
    · have hq := hq.trans (if_pos h53)
      have hok := ok_pos h53 hok
      exact B_N_pop_86_3 _ _ _ _ _ _ hok (lv_sub hl [0, 1, 2, 3] rfl) S hq
    · have hq := hq.trans (if_neg h53)
      have hok := ok_neg h53 hok
      refine lv_aload_n hx hb d_N_pop_56 rfl (lv_at hl 0 rfl) ?_
      refine g_N_9 hx hb hts hown hK S.1 d_N_pop_57 ?_
      refine lv_iload hx hb d_N_pop_60 (lv_at hl 3 rfl) ?_
      refine lv_bipush (v := 8) hx hb d_N_pop_62 (by decide) ?_
      refine lv_icmp_ne (tgt := 72) hx hb d_N_pop_64 rfl (fun _ => ?_) (fun h9 => absurd h9 (by decide))
      refine lv_iload hx hb d_N_pop_72 (lv_at hl 3 rfl) ?_
      exact B_N_pop_74_3 _ _ _ _ _ _ hok (lv_sub hl [0, 1, 2, 3] rfl) S hq
  have B_N_pop_86_2 : ∀ (v1 : Int32) (v3 : Int32) (σ : nS) (H : Heap) (locs : List Loc) (ls : Array Slot), (o_N_pop_86_2 v1 v3 σ) → lv_has ls 6 [(0, .ref (a 0)), (1, .int v1), (3, .int v3), (5, .int (2 : Int32))] → St D (wC cI cZ a) A s σ H locs → F = s_N_pop_86_2 v1 v3 σ → W p l e ({ frames := 2, cells := 0, slots := 0, locals := 48 } : Room) s m args below meth c H locs 0 0 Q (F0 m 86 ls []) := by
    intro v1 v3 σ H locs ls hok hl S hq
    refine lv_iinc (k := 3) (v := (3 : Int32)) hx hb d_N_pop_86 hl rfl (by first | rfl | decide) (by decide) rfl (fun ls hl => ?_)
    refine lv_goto (tgt := 40) hx hb d_N_pop_89 rfl ?_
    exact B_N_pop_40_3 _ _ _ _ _ _ hok (lv_sub hl [1, 2, 3, 0] rfl) S hq
  have B_N_pop_74_2 : ∀ (v1 : Int32) (v3 : Int32) (σ : nS) (H : Heap) (locs : List Loc) (ls : Array Slot), (o_N_pop_74_2 v1 v3 σ) → lv_has ls 6 [(0, .ref (a 0)), (1, .int v1), (3, .int v3), (5, .int (2 : Int32))] → St D (wC cI cZ a) A s σ H locs → F = s_N_pop_74_2 v1 v3 σ → W p l e ({ frames := 2, cells := 0, slots := 0, locals := 48 } : Room) s m args below meth c H locs 0 0 Q (F0 m 74 ls [.int (2 : Int32), .ref (a 1)]) := by
    intro v1 v3 σ H locs ls hok hl S hq
    refine lv_aload_n hx hb d_N_pop_74 rfl (lv_at hl 0 rfl) ?_
    refine g_N_19 hx hb hts hown hK S.1 d_N_pop_75 ?_
    refine lv_iload_n hx hb d_N_pop_78 rfl (lv_at hl 2 rfl) ?_
    refine callVIp X S hl (c_Me_load v3 _) v_N_66 3 1 ⟨rfl, rfl⟩ (rk_dec (by decide)) rfl rfl (Nat.le_of_ble_eq_true rfl) d_N_pop_79 (fun H locs S => ?_)
    refine st_C_1 (k := 2) hx hb hK S (vin_dec (by decide)) (by decide) d_N_pop_82 (fun H locs S => ?_)
    refine lv_iinc (k := 2) (v := (v3 + (4 : Int32))) hx hb d_N_pop_83 hl rfl (by first | rfl | decide) (by decide) rfl (fun ls hl => ?_)
    exact B_N_pop_86_2 _ _ _ _ _ _ hok (lv_sub hl [1, 2, 0, 3] rfl) S hq
  have B_N_pop_40_2 : ∀ (v1 : Int32) (v3 : Int32) (σ : nS) (H : Heap) (locs : List Loc) (ls : Array Slot), (o_N_pop_40_2 v1 v3 σ) → lv_has ls 6 [(0, .ref (a 0)), (1, .int v1), (3, .int v3), (5, .int (2 : Int32))] → St D (wC cI cZ a) A s σ H locs → F = s_N_pop_40_2 v1 v3 σ → W p l e ({ frames := 2, cells := 0, slots := 0, locals := 48 } : Room) s m args below meth c H locs 0 0 Q (F0 m 40 ls []) := by
    intro v1 v3 σ H locs ls hok hl S hq
    refine lv_iload hx hb d_N_pop_40 (lv_at hl 3 rfl) ?_
    refine lv_bipush (v := 8) hx hb d_N_pop_42 (by decide) ?_
    refine lv_icmp_gt (tgt := 92) hx hb d_N_pop_44 rfl (fun h9 => absurd h9 (by decide)) (fun _ => ?_)
    refine lv_iload_n hx hb d_N_pop_47 rfl (lv_at hl 1 rfl) ?_
    refine lv_iload hx hb d_N_pop_48 (lv_at hl 3 rfl) ?_
    refine lv_ishr hx hb d_N_pop_50 ?_
    refine lv_iconst (v := 1) hx hb d_N_pop_51 (by decide) ?_
    refine lv_iand hx hb d_N_pop_52 ?_
    refine lv_if_eq (tgt := 86) hx hb d_N_pop_53 rfl (fun h53 => ?_) (fun h53 => ?_)
    · have hq := hq.trans (if_pos h53)
      have hok := ok_pos h53 hok
      exact B_N_pop_86_2 _ _ _ _ _ _ hok (lv_sub hl [0, 1, 2, 3] rfl) S hq
    · have hq := hq.trans (if_neg h53)
      have hok := ok_neg h53 hok
      refine lv_aload_n hx hb d_N_pop_56 rfl (lv_at hl 0 rfl) ?_
      refine g_N_9 hx hb hts hown hK S.1 d_N_pop_57 ?_
      refine lv_iload hx hb d_N_pop_60 (lv_at hl 3 rfl) ?_
      refine lv_bipush (v := 8) hx hb d_N_pop_62 (by decide) ?_
      refine lv_icmp_ne (tgt := 72) hx hb d_N_pop_64 rfl (fun _ => ?_) (fun h9 => absurd h9 (by decide))
      refine lv_iload hx hb d_N_pop_72 (lv_at hl 3 rfl) ?_
      exact B_N_pop_74_2 _ _ _ _ _ _ hok (lv_sub hl [0, 1, 2, 3] rfl) S hq
  have B_N_pop_86_1 : ∀ (v1 : Int32) (v3 : Int32) (σ : nS) (H : Heap) (locs : List Loc) (ls : Array Slot), (o_N_pop_86_1 v1 v3 σ) → lv_has ls 6 [(0, .ref (a 0)), (1, .int v1), (3, .int v3), (5, .int (1 : Int32))] → St D (wC cI cZ a) A s σ H locs → F = s_N_pop_86_1 v1 v3 σ → W p l e ({ frames := 2, cells := 0, slots := 0, locals := 48 } : Room) s m args below meth c H locs 0 0 Q (F0 m 86 ls []) := by
    intro v1 v3 σ H locs ls hok hl S hq
    refine lv_iinc (k := 3) (v := (2 : Int32)) hx hb d_N_pop_86 hl rfl (by first | rfl | decide) (by decide) rfl (fun ls hl => ?_)
    refine lv_goto (tgt := 40) hx hb d_N_pop_89 rfl ?_
    exact B_N_pop_40_2 _ _ _ _ _ _ hok (lv_sub hl [1, 2, 3, 0] rfl) S hq
  have B_N_pop_74_1 : ∀ (v1 : Int32) (v3 : Int32) (σ : nS) (H : Heap) (locs : List Loc) (ls : Array Slot), (o_N_pop_74_1 v1 v3 σ) → lv_has ls 6 [(0, .ref (a 0)), (1, .int v1), (3, .int v3), (5, .int (1 : Int32))] → St D (wC cI cZ a) A s σ H locs → F = s_N_pop_74_1 v1 v3 σ → W p l e ({ frames := 2, cells := 0, slots := 0, locals := 48 } : Room) s m args below meth c H locs 0 0 Q (F0 m 74 ls [.int (1 : Int32), .ref (a 1)]) := by
    intro v1 v3 σ H locs ls hok hl S hq
    refine lv_aload_n hx hb d_N_pop_74 rfl (lv_at hl 0 rfl) ?_
    refine g_N_19 hx hb hts hown hK S.1 d_N_pop_75 ?_
    refine lv_iload_n hx hb d_N_pop_78 rfl (lv_at hl 2 rfl) ?_
    refine callVIp X S hl (c_Me_load v3 _) v_N_66 3 1 ⟨rfl, rfl⟩ (rk_dec (by decide)) rfl rfl (Nat.le_of_ble_eq_true rfl) d_N_pop_79 (fun H locs S => ?_)
    refine st_C_1 (k := 1) hx hb hK S (vin_dec (by decide)) (by decide) d_N_pop_82 (fun H locs S => ?_)
    refine lv_iinc (k := 2) (v := (v3 + (4 : Int32))) hx hb d_N_pop_83 hl rfl (by first | rfl | decide) (by decide) rfl (fun ls hl => ?_)
    exact B_N_pop_86_1 _ _ _ _ _ _ hok (lv_sub hl [1, 2, 0, 3] rfl) S hq
  have B_N_pop_40_1 : ∀ (v1 : Int32) (v3 : Int32) (σ : nS) (H : Heap) (locs : List Loc) (ls : Array Slot), (o_N_pop_40_1 v1 v3 σ) → lv_has ls 6 [(0, .ref (a 0)), (1, .int v1), (3, .int v3), (5, .int (1 : Int32))] → St D (wC cI cZ a) A s σ H locs → F = s_N_pop_40_1 v1 v3 σ → W p l e ({ frames := 2, cells := 0, slots := 0, locals := 48 } : Room) s m args below meth c H locs 0 0 Q (F0 m 40 ls []) := by
    intro v1 v3 σ H locs ls hok hl S hq
    refine lv_iload hx hb d_N_pop_40 (lv_at hl 3 rfl) ?_
    refine lv_bipush (v := 8) hx hb d_N_pop_42 (by decide) ?_
    refine lv_icmp_gt (tgt := 92) hx hb d_N_pop_44 rfl (fun h9 => absurd h9 (by decide)) (fun _ => ?_)
    refine lv_iload_n hx hb d_N_pop_47 rfl (lv_at hl 1 rfl) ?_
    refine lv_iload hx hb d_N_pop_48 (lv_at hl 3 rfl) ?_
    refine lv_ishr hx hb d_N_pop_50 ?_
    refine lv_iconst (v := 1) hx hb d_N_pop_51 (by decide) ?_
    refine lv_iand hx hb d_N_pop_52 ?_
    refine lv_if_eq (tgt := 86) hx hb d_N_pop_53 rfl (fun h53 => ?_) (fun h53 => ?_)
    · have hq := hq.trans (if_pos h53)
      have hok := ok_pos h53 hok
      exact B_N_pop_86_1 _ _ _ _ _ _ hok (lv_sub hl [0, 1, 2, 3] rfl) S hq
    · have hq := hq.trans (if_neg h53)
      have hok := ok_neg h53 hok
      refine lv_aload_n hx hb d_N_pop_56 rfl (lv_at hl 0 rfl) ?_
      refine g_N_9 hx hb hts hown hK S.1 d_N_pop_57 ?_
      refine lv_iload hx hb d_N_pop_60 (lv_at hl 3 rfl) ?_
      refine lv_bipush (v := 8) hx hb d_N_pop_62 (by decide) ?_
      refine lv_icmp_ne (tgt := 72) hx hb d_N_pop_64 rfl (fun _ => ?_) (fun h9 => absurd h9 (by decide))
      refine lv_iload hx hb d_N_pop_72 (lv_at hl 3 rfl) ?_
      exact B_N_pop_74_1 _ _ _ _ _ _ hok (lv_sub hl [0, 1, 2, 3] rfl) S hq
  have B_N_pop_86_0 : ∀ (v1 : Int32) (v3 : Int32) (σ : nS) (H : Heap) (locs : List Loc) (ls : Array Slot), (o_N_pop_86_0 v1 v3 σ) → lv_has ls 6 [(0, .ref (a 0)), (1, .int v1), (3, .int v3), (5, .int (0 : Int32))] → St D (wC cI cZ a) A s σ H locs → F = s_N_pop_86_0 v1 v3 σ → W p l e ({ frames := 2, cells := 0, slots := 0, locals := 48 } : Room) s m args below meth c H locs 0 0 Q (F0 m 86 ls []) := by
    intro v1 v3 σ H locs ls hok hl S hq
    refine lv_iinc (k := 3) (v := (1 : Int32)) hx hb d_N_pop_86 hl rfl (by first | rfl | decide) (by decide) rfl (fun ls hl => ?_)
    refine lv_goto (tgt := 40) hx hb d_N_pop_89 rfl ?_
    exact B_N_pop_40_1 _ _ _ _ _ _ hok (lv_sub hl [1, 2, 3, 0] rfl) S hq
  have B_N_pop_74_0 : ∀ (v1 : Int32) (v3 : Int32) (σ : nS) (H : Heap) (locs : List Loc) (ls : Array Slot), (o_N_pop_74_0 v1 v3 σ) → lv_has ls 6 [(0, .ref (a 0)), (1, .int v1), (3, .int v3), (5, .int (0 : Int32))] → St D (wC cI cZ a) A s σ H locs → F = s_N_pop_74_0 v1 v3 σ → W p l e ({ frames := 2, cells := 0, slots := 0, locals := 48 } : Room) s m args below meth c H locs 0 0 Q (F0 m 74 ls [.int (0 : Int32), .ref (a 1)]) := by
    intro v1 v3 σ H locs ls hok hl S hq
    refine lv_aload_n hx hb d_N_pop_74 rfl (lv_at hl 0 rfl) ?_
    refine g_N_19 hx hb hts hown hK S.1 d_N_pop_75 ?_
    refine lv_iload_n hx hb d_N_pop_78 rfl (lv_at hl 2 rfl) ?_
    refine callVIp X S hl (c_Me_load v3 _) v_N_66 3 1 ⟨rfl, rfl⟩ (rk_dec (by decide)) rfl rfl (Nat.le_of_ble_eq_true rfl) d_N_pop_79 (fun H locs S => ?_)
    refine st_C_1 (k := 0) hx hb hK S (vin_dec (by decide)) (by decide) d_N_pop_82 (fun H locs S => ?_)
    refine lv_iinc (k := 2) (v := (v3 + (4 : Int32))) hx hb d_N_pop_83 hl rfl (by first | rfl | decide) (by decide) rfl (fun ls hl => ?_)
    exact B_N_pop_86_0 _ _ _ _ _ _ hok (lv_sub hl [1, 2, 0, 3] rfl) S hq
  have B_N_pop_40_0 : ∀ (v1 : Int32) (v3 : Int32) (σ : nS) (H : Heap) (locs : List Loc) (ls : Array Slot), (o_N_pop_40_0 v1 v3 σ) → lv_has ls 6 [(0, .ref (a 0)), (1, .int v1), (3, .int v3), (5, .int (0 : Int32))] → St D (wC cI cZ a) A s σ H locs → F = s_N_pop_40_0 v1 v3 σ → W p l e ({ frames := 2, cells := 0, slots := 0, locals := 48 } : Room) s m args below meth c H locs 0 0 Q (F0 m 40 ls []) := by
    intro v1 v3 σ H locs ls hok hl S hq
    refine lv_iload hx hb d_N_pop_40 (lv_at hl 3 rfl) ?_
    refine lv_bipush (v := 8) hx hb d_N_pop_42 (by decide) ?_
    refine lv_icmp_gt (tgt := 92) hx hb d_N_pop_44 rfl (fun h9 => absurd h9 (by decide)) (fun _ => ?_)
    refine lv_iload_n hx hb d_N_pop_47 rfl (lv_at hl 1 rfl) ?_
    refine lv_iload hx hb d_N_pop_48 (lv_at hl 3 rfl) ?_
    refine lv_ishr hx hb d_N_pop_50 ?_
    refine lv_iconst (v := 1) hx hb d_N_pop_51 (by decide) ?_
    refine lv_iand hx hb d_N_pop_52 ?_
    refine lv_if_eq (tgt := 86) hx hb d_N_pop_53 rfl (fun h53 => ?_) (fun h53 => ?_)
    · have hq := hq.trans (if_pos h53)
      have hok := ok_pos h53 hok
      exact B_N_pop_86_0 _ _ _ _ _ _ hok (lv_sub hl [0, 1, 2, 3] rfl) S hq
    · have hq := hq.trans (if_neg h53)
      have hok := ok_neg h53 hok
      refine lv_aload_n hx hb d_N_pop_56 rfl (lv_at hl 0 rfl) ?_
      refine g_N_9 hx hb hts hown hK S.1 d_N_pop_57 ?_
      refine lv_iload hx hb d_N_pop_60 (lv_at hl 3 rfl) ?_
      refine lv_bipush (v := 8) hx hb d_N_pop_62 (by decide) ?_
      refine lv_icmp_ne (tgt := 72) hx hb d_N_pop_64 rfl (fun _ => ?_) (fun h9 => absurd h9 (by decide))
      refine lv_iload hx hb d_N_pop_72 (lv_at hl 3 rfl) ?_
      exact B_N_pop_74_0 _ _ _ _ _ _ hok (lv_sub hl [0, 1, 2, 3] rfl) S hq
  refine lv_iload_n hx hb d_N_pop_0 rfl (lv_at hl 1 rfl) ?_
  refine callSIp X S hl (c_In_bitCount v1 _) v_N_289 (rk_dec (by decide)) rfl rfl (Nat.le_of_ble_eq_true rfl) d_N_pop_1 (fun H locs S => ?_)
  refine lv_istore_n hx hb d_N_pop_4 rfl hl (by decide) rfl (fun ls hl => ?_)
  refine lv_iload_n hx hb d_N_pop_5 rfl (lv_at hl 0 rfl) ?_
  refine lv_if_ne (tgt := 12) hx hb d_N_pop_6 rfl (fun h6 => ?_) (fun h6 => ?_)
  · have hq := hq.trans (if_neg h6)
    have hok := ok_neg h6 hok
    refine lv_aload_n hx hb d_N_pop_12 rfl (lv_at hl 1 rfl) ?_
    refine g_N_9 hx hb hts hown hK S.1 d_N_pop_13 ?_
    refine lv_bipush (v := 13) hx hb d_N_pop_16 (by decide) ?_
    refine ld_C_1 (k := 13) hx hb hK S.1 (vin_dec (by decide)) (by decide) d_N_pop_18 ?_
    refine lv_istore_n hx hb d_N_pop_19 rfl hl (by decide) rfl (fun ls hl => ?_)
    refine lv_aload_n hx hb d_N_pop_20 rfl (lv_at hl 2 rfl) ?_
    refine lv_iload_n hx hb d_N_pop_21 rfl (lv_at hl 0 rfl) ?_
    refine lv_iload_n hx hb d_N_pop_22 rfl (lv_at hl 1 rfl) ?_
    refine lv_iconst (v := 1) hx hb d_N_pop_23 (by decide) ?_
    obtain ⟨g1, hok⟩ := hok
    refine callVIp X S hl (c_N_faultAlong (σ 0 13) (s_In_bitCount v1) (1 : Int32) _ g1) v_N_277 0 0 ⟨rfl, rfl⟩ (rk_dec (by decide)) rfl rfl (Nat.le_of_ble_eq_true rfl) d_N_pop_24 (fun H locs S => ?_)
    refine lv_istore hx hb d_N_pop_27 hl (by decide) rfl (fun ls hl => ?_)
    refine lv_iload hx hb d_N_pop_29 (lv_at hl 0 rfl) ?_
    refine lv_if_eq (tgt := 37) hx hb d_N_pop_31 rfl (fun h31 => ?_) (fun h31 => ?_)
    · have hq := hq.trans (if_pos h31)
      have hok := ok_pos h31 hok
      refine lv_iconst (v := 0) hx hb d_N_pop_37 (by decide) ?_
      refine lv_istore hx hb d_N_pop_38 hl (by decide) rfl (fun ls hl => ?_)
      exact B_N_pop_40_0 _ _ _ _ _ _ hok (lv_sub hl [4, 5, 2, 0] rfl) S hq
    · have hq := hq.trans (if_neg h31)
      have hok := ok_neg h31 hok
      refine lv_iload hx hb d_N_pop_34 (lv_at hl 0 rfl) ?_
      exact ret _ _ _ _ _ _ S hq d_N_pop_36
  · have hq := hq.trans (if_pos h6)
    have hok := ok_pos h6 hok
    refine lv_bipush (v := 6) hx hb d_N_pop_9 (by decide) ?_
    exact ret _ _ _ _ _ _ S hq d_N_pop_11
set_option maxHeartbeats 4000000 in
set_option maxRecDepth 100000 in
theorem c_N_switchOrNothing (v1 : Int32) (σ : nS) : CtI l D cI cZ (wC cI cZ a) (exC t) y_N_switchOrNothing b_N_switchOrNothing 2 { frames := 2, cells := 0, slots := 0, locals := 86 } [.ref (a 0), .int v1] σ (s_N_switchOrNothing v1 σ) := by
  generalize hF : s_N_switchOrNothing v1 σ = F
  refine metI (exC_ok t) (by decide) (Nat.le_of_ble_eq_true rfl) (fun p e s m args below meth c A Q ls X S hl ret => ?_)
  have hq := hF.symm
  obtain ⟨hx, hb, hml, hown, hts, hK, hA, hE, hlk, hEo⟩ := id X
  have hl : lv_has ls 2 [(0, .ref (a 0)), (1, .int v1)] := hl
  have B_N_switchOrNothing_103 : ∀ (σ : nS) (H : Heap) (locs : List Loc) (ls : Array Slot), lv_has ls 2 [] → St D (wC cI cZ a) A s σ H locs → F = s_N_switchOrNothing_103 σ → W p l e ({ frames := 2, cells := 0, slots := 0, locals := 86 } : Room) s m args below meth c H locs 0 0 Q (F0 m 103 ls []) := by
    intro σ H locs ls hl S hq
    refine lv_iconst (v := 0) hx hb d_N_switchOrNothing_103 (by decide) ?_
    exact ret _ _ _ _ _ _ S hq d_N_switchOrNothing_104
  refine lv_iload_n hx hb d_N_switchOrNothing_0 rfl (lv_at hl 1 rfl) ?_
  by_cases h1_46689 : v1 = (46689 : Int32)
  · have hq := hq.trans (if_pos h1_46689)
    refine lv_lookup (off := 73) (tgt := 74) hx hb d_N_switchOrNothing_1 (by decide) (by rw [h1_46689]; decide) rfl ?_
    refine lv_aload_n hx hb d_N_switchOrNothing_74 rfl (lv_at hl 0 rfl) ?_
    refine g_N_33 hx hb hts hown hK S.1 d_N_switchOrNothing_75 ?_
    refine lv_iconst (v := 0) hx hb d_N_switchOrNothing_78 (by decide) ?_
    refine p_N_79 (b := false) hx hb hts hown hK S d_N_switchOrNothing_79 (fun H locs S => ?_)
    refine lv_iconst (v := 0) hx hb d_N_switchOrNothing_82 (by decide) ?_
    exact ret _ _ _ _ _ _ S hq d_N_switchOrNothing_83
  · have hq := hq.trans (if_neg h1_46689)
    by_cases h1_46690 : v1 = (46690 : Int32)
    · have hq := hq.trans (if_pos h1_46690)
      refine lv_lookup (off := 53) (tgt := 54) hx hb d_N_switchOrNothing_1 (by decide) (by rw [h1_46690]; decide) rfl ?_
      refine lv_aload_n hx hb d_N_switchOrNothing_54 rfl (lv_at hl 0 rfl) ?_
      refine g_N_33 hx hb hts hown hK S.1 d_N_switchOrNothing_55 ?_
      refine lv_iconst (v := 0) hx hb d_N_switchOrNothing_58 (by decide) ?_
      refine p_N_75 (b := false) hx hb hts hown hK S d_N_switchOrNothing_59 (fun H locs S => ?_)
      refine lv_iconst (v := 0) hx hb d_N_switchOrNothing_62 (by decide) ?_
      exact ret _ _ _ _ _ _ S hq d_N_switchOrNothing_63
    · have hq := hq.trans (if_neg h1_46690)
      by_cases h1_46705 : v1 = (46705 : Int32)
      · have hq := hq.trans (if_pos h1_46705)
        refine lv_lookup (off := 83) (tgt := 84) hx hb d_N_switchOrNothing_1 (by decide) (by rw [h1_46705]; decide) rfl ?_
        refine lv_aload_n hx hb d_N_switchOrNothing_84 rfl (lv_at hl 0 rfl) ?_
        refine g_N_33 hx hb hts hown hK S.1 d_N_switchOrNothing_85 ?_
        refine callVIp X S hl (c_Ex_level _) v_N_131 10 3 ⟨rfl, rfl⟩ (rk_dec (by decide)) rfl rfl (Nat.le_of_ble_eq_true rfl) d_N_switchOrNothing_88 (fun H locs S => ?_)
        refine lv_iconst (v := -1) hx hb d_N_switchOrNothing_91 (by decide) ?_
        refine lv_icmp_le (tgt := 103) hx hb d_N_switchOrNothing_92 rfl (fun h92 => ?_) (fun h92 => ?_)
        · have hq := hq.trans (if_pos h92)
          exact B_N_switchOrNothing_103 _ _ _ _ (lv_sub hl [] rfl) S hq
        · have hq := hq.trans (if_neg h92)
          refine lv_aload_n hx hb d_N_switchOrNothing_95 rfl (lv_at hl 0 rfl) ?_
          refine g_N_33 hx hb hts hown hK S.1 d_N_switchOrNothing_96 ?_
          refine lv_iconst (v := 1) hx hb d_N_switchOrNothing_99 (by decide) ?_
          refine p_N_79 (b := true) hx hb hts hown hK S d_N_switchOrNothing_100 (fun H locs S => ?_)
          exact B_N_switchOrNothing_103 _ _ _ _ (lv_sub hl [] rfl) S hq
      · have hq := hq.trans (if_neg h1_46705)
        by_cases h1_46706 : v1 = (46706 : Int32)
        · have hq := hq.trans (if_pos h1_46706)
          refine lv_lookup (off := 63) (tgt := 64) hx hb d_N_switchOrNothing_1 (by decide) (by rw [h1_46706]; decide) rfl ?_
          refine lv_aload_n hx hb d_N_switchOrNothing_64 rfl (lv_at hl 0 rfl) ?_
          refine g_N_33 hx hb hts hown hK S.1 d_N_switchOrNothing_65 ?_
          refine lv_iconst (v := 1) hx hb d_N_switchOrNothing_68 (by decide) ?_
          refine p_N_75 (b := true) hx hb hts hown hK S d_N_switchOrNothing_69 (fun H locs S => ?_)
          refine lv_iconst (v := 0) hx hb d_N_switchOrNothing_72 (by decide) ?_
          exact ret _ _ _ _ _ _ S hq d_N_switchOrNothing_73
        · have hq := hq.trans (if_neg h1_46706)
          by_cases h1_48896 : v1 = (48896 : Int32)
          · have hq := hq.trans (if_pos h1_48896)
            refine lv_lookup (off := 51) (tgt := 52) hx hb d_N_switchOrNothing_1 (by decide) (by rw [h1_48896]; decide) rfl ?_
            refine lv_iconst (v := 0) hx hb d_N_switchOrNothing_52 (by decide) ?_
            exact ret _ _ _ _ _ _ S hq d_N_switchOrNothing_53
          · have hq := hq.trans (if_neg h1_48896)
            refine lv_lookup (off := 104) (tgt := 105) hx hb d_N_switchOrNothing_1 (by decide) (by refine (lv_osw h1_46689 (by decide)).trans ?_; refine (lv_osw h1_46690 (by decide)).trans ?_; refine (lv_osw h1_46705 (by decide)).trans ?_; refine (lv_osw h1_46706 (by decide)).trans ?_; refine (lv_osw h1_48896 (by decide)).trans ?_; rfl) rfl ?_
            refine lv_bipush (v := 6) hx hb d_N_switchOrNothing_105 (by decide) ?_
            exact ret _ _ _ _ _ _ S hq d_N_switchOrNothing_107
set_option maxHeartbeats 4000000 in
set_option maxRecDepth 100000 in
theorem c_N_stackOrSwitch (v1 : Int32) (σ : nS) (hok : o_N_stackOrSwitch v1 σ) : CtI l D cI cZ (wC cI cZ a) (exC t) y_N_stackOrSwitch b_N_stackOrSwitch 3 { frames := 3, cells := 0, slots := 0, locals := 107 } [.ref (a 0), .int v1] σ (s_N_stackOrSwitch v1 σ) := by
  generalize hF : s_N_stackOrSwitch v1 σ = F
  refine metI (exC_ok t) (by decide) (Nat.le_of_ble_eq_true rfl) (fun p e s m args below meth c A Q ls X S hl ret => ?_)
  have hq := hF.symm
  obtain ⟨hx, hb, hml, hown, hts, hK, hA, hE, hlk, hEo⟩ := id X
  have hl : lv_has ls 3 [(0, .ref (a 0)), (1, .int v1)] := hl
  have B_N_stackOrSwitch_105 : ∀ (k2 : Int32) (k3 : Int32) (σ : nS) (H : Heap) (locs : List Loc) (ls : Array Slot), (o_N_stackOrSwitch_105 k2 k3 σ) → lv_has ls 3 [] → St D (wC cI cZ a) A s σ H locs → F = s_N_stackOrSwitch_105 k2 k3 σ → W p l e ({ frames := 3, cells := 0, slots := 0, locals := 107 } : Room) s m args below meth c H locs 0 0 Q (F0 m 105 ls [.int k3, .int k2, .int (13 : Int32), .ref (a 1)]) := by
    intro k2 k3 σ H locs ls hok hl S hq
    refine lv_iadd hx hb d_N_stackOrSwitch_105 ?_
    refine st_C_1 (k := 13) hx hb hK S (vin_dec (by decide)) (by decide) d_N_stackOrSwitch_106 (fun H locs S => ?_)
    refine lv_iconst (v := 0) hx hb d_N_stackOrSwitch_107 (by decide) ?_
    exact ret _ _ _ _ _ _ S hq d_N_stackOrSwitch_108
  refine lv_iload_n hx hb d_N_stackOrSwitch_0 rfl (lv_at hl 1 rfl) ?_
  refine lv_bipush (v := 8) hx hb d_N_stackOrSwitch_1 (by decide) ?_
  refine lv_ishr hx hb d_N_stackOrSwitch_3 ?_
  refine lv_bipush (v := 15) hx hb d_N_stackOrSwitch_4 (by decide) ?_
  refine lv_iand hx hb d_N_stackOrSwitch_6 ?_
  by_cases h7_0 : ((v1 >>> ((8 : Int32) &&& 31)) &&& (15 : Int32)) = (0 : Int32)
  · have hq := hq.trans (if_pos h7_0)
    have hok := ok_pos h7_0 hok
    refine lv_tableIn (off := 69) (tgt := 76) hx hb d_N_stackOrSwitch_7 (by rw [h7_0]; decide) (by rw [h7_0]; decide) (by rw [h7_0]; rfl) rfl ?_
    refine lv_iconst (v := 4) hx hb d_N_stackOrSwitch_76 (by decide) ?_
    refine lv_iload_n hx hb d_N_stackOrSwitch_77 rfl (lv_at hl 1 rfl) ?_
    refine lv_bipush (v := 127) hx hb d_N_stackOrSwitch_78 (by decide) ?_
    refine lv_iand hx hb d_N_stackOrSwitch_80 ?_
    refine lv_imul hx hb d_N_stackOrSwitch_81 ?_
    refine lv_istore_n hx hb d_N_stackOrSwitch_82 rfl hl (by decide) rfl (fun ls hl => ?_)
    refine lv_aload_n hx hb d_N_stackOrSwitch_83 rfl (lv_at hl 1 rfl) ?_
    refine g_N_9 hx hb hts hown hK S.1 d_N_stackOrSwitch_84 ?_
    refine lv_bipush (v := 13) hx hb d_N_stackOrSwitch_87 (by decide) ?_
    refine lv_dup2_11 hx hb d_N_stackOrSwitch_89 rfl rfl ?_
    refine ld_C_1 (k := 13) hx hb hK S.1 (vin_dec (by decide)) (by decide) d_N_stackOrSwitch_90 ?_
    refine lv_iload_n hx hb d_N_stackOrSwitch_91 rfl (lv_at hl 2 rfl) ?_
    refine lv_sipush (v := 128) hx hb d_N_stackOrSwitch_92 (by decide) ?_
    refine lv_iand hx hb d_N_stackOrSwitch_95 ?_
    refine lv_if_ne (tgt := 103) hx hb d_N_stackOrSwitch_96 rfl (fun h96 => ?_) (fun h96 => ?_)
    · have hq := hq.trans (if_neg h96)
      have hok := ok_neg h96 hok
      refine lv_iload_n hx hb d_N_stackOrSwitch_103 rfl (lv_at hl 0 rfl) ?_
      refine lv_ineg hx hb d_N_stackOrSwitch_104 ?_
      exact B_N_stackOrSwitch_105 _ _ _ _ _ _ hok (lv_sub hl [] rfl) S hq
    · have hq := hq.trans (if_pos h96)
      have hok := ok_pos h96 hok
      refine lv_iload_n hx hb d_N_stackOrSwitch_99 rfl (lv_at hl 0 rfl) ?_
      refine lv_goto (tgt := 105) hx hb d_N_stackOrSwitch_100 rfl ?_
      exact B_N_stackOrSwitch_105 _ _ _ _ _ _ hok (lv_sub hl [] rfl) S hq
  · have hq := hq.trans (if_neg h7_0)
    have hok := ok_neg h7_0 hok
    by_cases h7_1 : ((v1 >>> ((8 : Int32) &&& 31)) &&& (15 : Int32)) = (1 : Int32)
    · have hq := hq.trans (if_pos h7_1)
      have hok := ok_pos h7_1 hok
      refine lv_tableIn (off := 122) (tgt := 129) hx hb d_N_stackOrSwitch_7 (by rw [h7_1]; decide) (by rw [h7_1]; decide) (by rw [h7_1]; rfl) rfl ?_
      refine lv_aload_n hx hb d_N_stackOrSwitch_129 rfl (lv_at hl 0 rfl) ?_
      refine lv_iload_n hx hb d_N_stackOrSwitch_130 rfl (lv_at hl 1 rfl) ?_
      refine callVI X S hl (c_N_switchOrNothing v1 _) v_N_286 0 0 ⟨rfl, rfl⟩ (rk_dec (by decide)) rfl rfl (Nat.le_of_ble_eq_true rfl) d_N_stackOrSwitch_131 (fun r1 σ1 H locs e1 S => ?_)
      have hq := hq.trans (ap2_eq e1)
      have hok := ok_ap2 e1 hok
      exact ret _ _ _ _ _ _ S hq d_N_stackOrSwitch_134
    · have hq := hq.trans (if_neg h7_1)
      have hok := ok_neg h7_1 hok
      by_cases h7_2 : ((v1 >>> ((8 : Int32) &&& 31)) &&& (15 : Int32)) = (2 : Int32)
      · have hq := hq.trans (if_pos h7_2)
        have hok := ok_pos h7_2 hok
        refine lv_tableIn (off := 122) (tgt := 129) hx hb d_N_stackOrSwitch_7 (by rw [h7_2]; decide) (by rw [h7_2]; decide) (by rw [h7_2]; rfl) rfl ?_
        refine lv_aload_n hx hb d_N_stackOrSwitch_129 rfl (lv_at hl 0 rfl) ?_
        refine lv_iload_n hx hb d_N_stackOrSwitch_130 rfl (lv_at hl 1 rfl) ?_
        refine callVI X S hl (c_N_switchOrNothing v1 _) v_N_286 0 0 ⟨rfl, rfl⟩ (rk_dec (by decide)) rfl rfl (Nat.le_of_ble_eq_true rfl) d_N_stackOrSwitch_131 (fun r1 σ1 H locs e1 S => ?_)
        have hq := hq.trans (ap2_eq e1)
        have hok := ok_ap2 e1 hok
        exact ret _ _ _ _ _ _ S hq d_N_stackOrSwitch_134
      · have hq := hq.trans (if_neg h7_2)
        have hok := ok_neg h7_2 hok
        by_cases h7_3 : ((v1 >>> ((8 : Int32) &&& 31)) &&& (15 : Int32)) = (3 : Int32)
        · have hq := hq.trans (if_pos h7_3)
          have hok := ok_pos h7_3 hok
          refine lv_tableIn (off := 122) (tgt := 129) hx hb d_N_stackOrSwitch_7 (by rw [h7_3]; decide) (by rw [h7_3]; decide) (by rw [h7_3]; rfl) rfl ?_
          refine lv_aload_n hx hb d_N_stackOrSwitch_129 rfl (lv_at hl 0 rfl) ?_
          refine lv_iload_n hx hb d_N_stackOrSwitch_130 rfl (lv_at hl 1 rfl) ?_
          refine callVI X S hl (c_N_switchOrNothing v1 _) v_N_286 0 0 ⟨rfl, rfl⟩ (rk_dec (by decide)) rfl rfl (Nat.le_of_ble_eq_true rfl) d_N_stackOrSwitch_131 (fun r1 σ1 H locs e1 S => ?_)
          have hq := hq.trans (ap2_eq e1)
          have hok := ok_ap2 e1 hok
          exact ret _ _ _ _ _ _ S hq d_N_stackOrSwitch_134
        · have hq := hq.trans (if_neg h7_3)
          have hok := ok_neg h7_3 hok
          by_cases h7_4 : ((v1 >>> ((8 : Int32) &&& 31)) &&& (15 : Int32)) = (4 : Int32)
          · have hq := hq.trans (if_pos h7_4)
            have hok := ok_pos h7_4 hok
            refine lv_tableIn (off := 102) (tgt := 109) hx hb d_N_stackOrSwitch_7 (by rw [h7_4]; decide) (by rw [h7_4]; decide) (by rw [h7_4]; rfl) rfl ?_
            refine lv_aload_n hx hb d_N_stackOrSwitch_109 rfl (lv_at hl 0 rfl) ?_
            refine lv_iload_n hx hb d_N_stackOrSwitch_110 rfl (lv_at hl 1 rfl) ?_
            refine lv_sipush (v := 511) hx hb d_N_stackOrSwitch_111 (by decide) ?_
            refine lv_iand hx hb d_N_stackOrSwitch_114 ?_
            obtain ⟨g1, hok⟩ := hok
            refine callVI X S hl (c_N_push (v1 &&& (511 : Int32)) _ g1) v_N_280 0 0 ⟨rfl, rfl⟩ (rk_dec (by decide)) rfl rfl (Nat.le_of_ble_eq_true rfl) d_N_stackOrSwitch_115 (fun r1 σ1 H locs e1 S => ?_)
            have hq := hq.trans (ap2_eq e1)
            have hok := ok_ap2 e1 hok
            exact ret _ _ _ _ _ _ S hq d_N_stackOrSwitch_118
          · have hq := hq.trans (if_neg h7_4)
            have hok := ok_neg h7_4 hok
            by_cases h7_5 : ((v1 >>> ((8 : Int32) &&& 31)) &&& (15 : Int32)) = (5 : Int32)
            · have hq := hq.trans (if_pos h7_5)
              have hok := ok_pos h7_5 hok
              refine lv_tableIn (off := 102) (tgt := 109) hx hb d_N_stackOrSwitch_7 (by rw [h7_5]; decide) (by rw [h7_5]; decide) (by rw [h7_5]; rfl) rfl ?_
              refine lv_aload_n hx hb d_N_stackOrSwitch_109 rfl (lv_at hl 0 rfl) ?_
              refine lv_iload_n hx hb d_N_stackOrSwitch_110 rfl (lv_at hl 1 rfl) ?_
              refine lv_sipush (v := 511) hx hb d_N_stackOrSwitch_111 (by decide) ?_
              refine lv_iand hx hb d_N_stackOrSwitch_114 ?_
              obtain ⟨g2, hok⟩ := hok
              refine callVI X S hl (c_N_push (v1 &&& (511 : Int32)) _ g2) v_N_280 0 0 ⟨rfl, rfl⟩ (rk_dec (by decide)) rfl rfl (Nat.le_of_ble_eq_true rfl) d_N_stackOrSwitch_115 (fun r1 σ1 H locs e1 S => ?_)
              have hq := hq.trans (ap2_eq e1)
              have hok := ok_ap2 e1 hok
              exact ret _ _ _ _ _ _ S hq d_N_stackOrSwitch_118
            · have hq := hq.trans (if_neg h7_5)
              have hok := ok_neg h7_5 hok
              by_cases h7_6 : ((v1 >>> ((8 : Int32) &&& 31)) &&& (15 : Int32)) = (6 : Int32)
              · have hq := hq.trans (if_pos h7_6)
                have hok := ok_pos h7_6 hok
                refine lv_tableIn (off := 122) (tgt := 129) hx hb d_N_stackOrSwitch_7 (by rw [h7_6]; decide) (by rw [h7_6]; decide) (by rw [h7_6]; rfl) rfl ?_
                refine lv_aload_n hx hb d_N_stackOrSwitch_129 rfl (lv_at hl 0 rfl) ?_
                refine lv_iload_n hx hb d_N_stackOrSwitch_130 rfl (lv_at hl 1 rfl) ?_
                refine callVI X S hl (c_N_switchOrNothing v1 _) v_N_286 0 0 ⟨rfl, rfl⟩ (rk_dec (by decide)) rfl rfl (Nat.le_of_ble_eq_true rfl) d_N_stackOrSwitch_131 (fun r1 σ1 H locs e1 S => ?_)
                have hq := hq.trans (ap2_eq e1)
                have hok := ok_ap2 e1 hok
                exact ret _ _ _ _ _ _ S hq d_N_stackOrSwitch_134
              · have hq := hq.trans (if_neg h7_6)
                have hok := ok_neg h7_6 hok
                by_cases h7_7 : ((v1 >>> ((8 : Int32) &&& 31)) &&& (15 : Int32)) = (7 : Int32)
                · have hq := hq.trans (if_pos h7_7)
                  have hok := ok_pos h7_7 hok
                  refine lv_tableIn (off := 122) (tgt := 129) hx hb d_N_stackOrSwitch_7 (by rw [h7_7]; decide) (by rw [h7_7]; decide) (by rw [h7_7]; rfl) rfl ?_
                  refine lv_aload_n hx hb d_N_stackOrSwitch_129 rfl (lv_at hl 0 rfl) ?_
                  refine lv_iload_n hx hb d_N_stackOrSwitch_130 rfl (lv_at hl 1 rfl) ?_
                  refine callVI X S hl (c_N_switchOrNothing v1 _) v_N_286 0 0 ⟨rfl, rfl⟩ (rk_dec (by decide)) rfl rfl (Nat.le_of_ble_eq_true rfl) d_N_stackOrSwitch_131 (fun r1 σ1 H locs e1 S => ?_)
                  have hq := hq.trans (ap2_eq e1)
                  have hok := ok_ap2 e1 hok
                  exact ret _ _ _ _ _ _ S hq d_N_stackOrSwitch_134
                · have hq := hq.trans (if_neg h7_7)
                  have hok := ok_neg h7_7 hok
                  by_cases h7_8 : ((v1 >>> ((8 : Int32) &&& 31)) &&& (15 : Int32)) = (8 : Int32)
                  · have hq := hq.trans (if_pos h7_8)
                    have hok := ok_pos h7_8 hok
                    refine lv_tableIn (off := 122) (tgt := 129) hx hb d_N_stackOrSwitch_7 (by rw [h7_8]; decide) (by rw [h7_8]; decide) (by rw [h7_8]; rfl) rfl ?_
                    refine lv_aload_n hx hb d_N_stackOrSwitch_129 rfl (lv_at hl 0 rfl) ?_
                    refine lv_iload_n hx hb d_N_stackOrSwitch_130 rfl (lv_at hl 1 rfl) ?_
                    refine callVI X S hl (c_N_switchOrNothing v1 _) v_N_286 0 0 ⟨rfl, rfl⟩ (rk_dec (by decide)) rfl rfl (Nat.le_of_ble_eq_true rfl) d_N_stackOrSwitch_131 (fun r1 σ1 H locs e1 S => ?_)
                    have hq := hq.trans (ap2_eq e1)
                    have hok := ok_ap2 e1 hok
                    exact ret _ _ _ _ _ _ S hq d_N_stackOrSwitch_134
                  · have hq := hq.trans (if_neg h7_8)
                    have hok := ok_neg h7_8 hok
                    by_cases h7_9 : ((v1 >>> ((8 : Int32) &&& 31)) &&& (15 : Int32)) = (9 : Int32)
                    · have hq := hq.trans (if_pos h7_9)
                      have hok := ok_pos h7_9 hok
                      refine lv_tableIn (off := 122) (tgt := 129) hx hb d_N_stackOrSwitch_7 (by rw [h7_9]; decide) (by rw [h7_9]; decide) (by rw [h7_9]; rfl) rfl ?_
                      refine lv_aload_n hx hb d_N_stackOrSwitch_129 rfl (lv_at hl 0 rfl) ?_
                      refine lv_iload_n hx hb d_N_stackOrSwitch_130 rfl (lv_at hl 1 rfl) ?_
                      refine callVI X S hl (c_N_switchOrNothing v1 _) v_N_286 0 0 ⟨rfl, rfl⟩ (rk_dec (by decide)) rfl rfl (Nat.le_of_ble_eq_true rfl) d_N_stackOrSwitch_131 (fun r1 σ1 H locs e1 S => ?_)
                      have hq := hq.trans (ap2_eq e1)
                      have hok := ok_ap2 e1 hok
                      exact ret _ _ _ _ _ _ S hq d_N_stackOrSwitch_134
                    · have hq := hq.trans (if_neg h7_9)
                      have hok := ok_neg h7_9 hok
                      by_cases h7_10 : ((v1 >>> ((8 : Int32) &&& 31)) &&& (15 : Int32)) = (10 : Int32)
                      · have hq := hq.trans (if_pos h7_10)
                        have hok := ok_pos h7_10 hok
                        refine lv_tableIn (off := 122) (tgt := 129) hx hb d_N_stackOrSwitch_7 (by rw [h7_10]; decide) (by rw [h7_10]; decide) (by rw [h7_10]; rfl) rfl ?_
                        refine lv_aload_n hx hb d_N_stackOrSwitch_129 rfl (lv_at hl 0 rfl) ?_
                        refine lv_iload_n hx hb d_N_stackOrSwitch_130 rfl (lv_at hl 1 rfl) ?_
                        refine callVI X S hl (c_N_switchOrNothing v1 _) v_N_286 0 0 ⟨rfl, rfl⟩ (rk_dec (by decide)) rfl rfl (Nat.le_of_ble_eq_true rfl) d_N_stackOrSwitch_131 (fun r1 σ1 H locs e1 S => ?_)
                        have hq := hq.trans (ap2_eq e1)
                        have hok := ok_ap2 e1 hok
                        exact ret _ _ _ _ _ _ S hq d_N_stackOrSwitch_134
                      · have hq := hq.trans (if_neg h7_10)
                        have hok := ok_neg h7_10 hok
                        by_cases h7_11 : ((v1 >>> ((8 : Int32) &&& 31)) &&& (15 : Int32)) = (11 : Int32)
                        · have hq := hq.trans (if_pos h7_11)
                          have hok := ok_pos h7_11 hok
                          refine lv_tableIn (off := 122) (tgt := 129) hx hb d_N_stackOrSwitch_7 (by rw [h7_11]; decide) (by rw [h7_11]; decide) (by rw [h7_11]; rfl) rfl ?_
                          refine lv_aload_n hx hb d_N_stackOrSwitch_129 rfl (lv_at hl 0 rfl) ?_
                          refine lv_iload_n hx hb d_N_stackOrSwitch_130 rfl (lv_at hl 1 rfl) ?_
                          refine callVI X S hl (c_N_switchOrNothing v1 _) v_N_286 0 0 ⟨rfl, rfl⟩ (rk_dec (by decide)) rfl rfl (Nat.le_of_ble_eq_true rfl) d_N_stackOrSwitch_131 (fun r1 σ1 H locs e1 S => ?_)
                          have hq := hq.trans (ap2_eq e1)
                          have hok := ok_ap2 e1 hok
                          exact ret _ _ _ _ _ _ S hq d_N_stackOrSwitch_134
                        · have hq := hq.trans (if_neg h7_11)
                          have hok := ok_neg h7_11 hok
                          by_cases h7_12 : ((v1 >>> ((8 : Int32) &&& 31)) &&& (15 : Int32)) = (12 : Int32)
                          · have hq := hq.trans (if_pos h7_12)
                            have hok := ok_pos h7_12 hok
                            refine lv_tableIn (off := 112) (tgt := 119) hx hb d_N_stackOrSwitch_7 (by rw [h7_12]; decide) (by rw [h7_12]; decide) (by rw [h7_12]; rfl) rfl ?_
                            refine lv_aload_n hx hb d_N_stackOrSwitch_119 rfl (lv_at hl 0 rfl) ?_
                            refine lv_iload_n hx hb d_N_stackOrSwitch_120 rfl (lv_at hl 1 rfl) ?_
                            refine lv_sipush (v := 511) hx hb d_N_stackOrSwitch_121 (by decide) ?_
                            refine lv_iand hx hb d_N_stackOrSwitch_124 ?_
                            obtain ⟨g3, hok⟩ := hok
                            refine callVI X S hl (c_N_pop (v1 &&& (511 : Int32)) _ g3) v_N_283 0 0 ⟨rfl, rfl⟩ (rk_dec (by decide)) rfl rfl (Nat.le_of_ble_eq_true rfl) d_N_stackOrSwitch_125 (fun r1 σ1 H locs e1 S => ?_)
                            have hq := hq.trans (ap2_eq e1)
                            have hok := ok_ap2 e1 hok
                            exact ret _ _ _ _ _ _ S hq d_N_stackOrSwitch_128
                          · have hq := hq.trans (if_neg h7_12)
                            have hok := ok_neg h7_12 hok
                            by_cases h7_13 : ((v1 >>> ((8 : Int32) &&& 31)) &&& (15 : Int32)) = (13 : Int32)
                            · have hq := hq.trans (if_pos h7_13)
                              have hok := ok_pos h7_13 hok
                              refine lv_tableIn (off := 112) (tgt := 119) hx hb d_N_stackOrSwitch_7 (by rw [h7_13]; decide) (by rw [h7_13]; decide) (by rw [h7_13]; rfl) rfl ?_
                              refine lv_aload_n hx hb d_N_stackOrSwitch_119 rfl (lv_at hl 0 rfl) ?_
                              refine lv_iload_n hx hb d_N_stackOrSwitch_120 rfl (lv_at hl 1 rfl) ?_
                              refine lv_sipush (v := 511) hx hb d_N_stackOrSwitch_121 (by decide) ?_
                              refine lv_iand hx hb d_N_stackOrSwitch_124 ?_
                              obtain ⟨g4, hok⟩ := hok
                              refine callVI X S hl (c_N_pop (v1 &&& (511 : Int32)) _ g4) v_N_283 0 0 ⟨rfl, rfl⟩ (rk_dec (by decide)) rfl rfl (Nat.le_of_ble_eq_true rfl) d_N_stackOrSwitch_125 (fun r1 σ1 H locs e1 S => ?_)
                              have hq := hq.trans (ap2_eq e1)
                              have hok := ok_ap2 e1 hok
                              exact ret _ _ _ _ _ _ S hq d_N_stackOrSwitch_128
                            · have hq := hq.trans (if_neg h7_13)
                              have hok := ok_neg h7_13 hok
                              have h7_0T := lv_neT (a := 0) h7_0 (by decide)
                              have h7_1T := lv_neT (a := 1) h7_1 (by decide)
                              have h7_2T := lv_neT (a := 2) h7_2 (by decide)
                              have h7_3T := lv_neT (a := 3) h7_3 (by decide)
                              have h7_4T := lv_neT (a := 4) h7_4 (by decide)
                              have h7_5T := lv_neT (a := 5) h7_5 (by decide)
                              have h7_6T := lv_neT (a := 6) h7_6 (by decide)
                              have h7_7T := lv_neT (a := 7) h7_7 (by decide)
                              have h7_8T := lv_neT (a := 8) h7_8 (by decide)
                              have h7_9T := lv_neT (a := 9) h7_9 (by decide)
                              have h7_10T := lv_neT (a := 10) h7_10 (by decide)
                              have h7_11T := lv_neT (a := 11) h7_11 (by decide)
                              have h7_12T := lv_neT (a := 12) h7_12 (by decide)
                              have h7_13T := lv_neT (a := 13) h7_13 (by decide)
                              refine lv_tableOut (tgt := 129) hx hb d_N_stackOrSwitch_7 (by omega) rfl ?_
                              refine lv_aload_n hx hb d_N_stackOrSwitch_129 rfl (lv_at hl 0 rfl) ?_
                              refine lv_iload_n hx hb d_N_stackOrSwitch_130 rfl (lv_at hl 1 rfl) ?_
                              refine callVI X S hl (c_N_switchOrNothing v1 _) v_N_286 0 0 ⟨rfl, rfl⟩ (rk_dec (by decide)) rfl rfl (Nat.le_of_ble_eq_true rfl) d_N_stackOrSwitch_131 (fun r1 σ1 H locs e1 S => ?_)
                              have hq := hq.trans (ap2_eq e1)
                              have hok := ok_ap2 e1 hok
                              exact ret _ _ _ _ _ _ S hq d_N_stackOrSwitch_134
set_option maxHeartbeats 4000000 in
set_option maxRecDepth 100000 in
theorem c_N_callOut (σ : nS) : CtI l D cI cZ (wC cI cZ a) (exC t) y_N_callOut b_N_callOut 1 { frames := 2, cells := 0, slots := 0, locals := 86 } [.ref (a 0)] σ (s_N_callOut σ) := by
  generalize hF : s_N_callOut σ = F
  refine metI (exC_ok t) (by decide) (Nat.le_of_ble_eq_true rfl) (fun p e s m args below meth c A Q ls X S hl ret => ?_)
  have hq := hF.symm
  obtain ⟨hx, hb, hml, hown, hts, hK, hA, hE, hlk, hEo⟩ := id X
  have hl : lv_has ls 1 [(0, .ref (a 0))] := hl
  refine lv_aload_n hx hb d_N_callOut_0 rfl (lv_at hl 0 rfl) ?_
  refine g_N_33 hx hb hts hown hK S.1 d_N_callOut_1 ?_
  refine lv_bipush (v := 7) hx hb d_N_callOut_4 (by decide) ?_
  refine callVIp X S hl (c_Ex_group (7 : Int32) _ (vin_dec (by decide))) v_N_196 10 3 ⟨rfl, rfl⟩ (rk_dec (by decide)) rfl rfl (Nat.le_of_ble_eq_true rfl) d_N_callOut_6 (fun H locs S => ?_)
  refine lv_aload_n hx hb d_N_callOut_9 rfl (lv_at hl 0 rfl) ?_
  refine g_N_33 hx hb hts hown hK S.1 d_N_callOut_10 ?_
  refine callVIp X S hl (c_Ex_level _) v_N_131 10 3 ⟨rfl, rfl⟩ (rk_dec (by decide)) rfl rfl (Nat.le_of_ble_eq_true rfl) d_N_callOut_13 (fun H locs S => ?_)
  refine lv_icmp_lt (tgt := 22) hx hb d_N_callOut_16 rfl (fun h16 => ?_) (fun h16 => ?_)
  · have hq := hq.trans (if_pos h16)
    refine lv_aload_n hx hb d_N_callOut_22 rfl (lv_at hl 0 rfl) ?_
    refine g_N_33 hx hb hts hown hK S.1 d_N_callOut_23 ?_
    refine g_N_104 hx hb hts hown hK S.1 d_N_callOut_26 ?_
    refine lv_bipush (v := 7) hx hb d_N_callOut_29 (by decide) ?_
    refine lv_iconst (v := 1) hx hb d_N_callOut_31 (by decide) ?_
    refine st_C_12 (k := 7) (b := true) hx hb hK S (vin_dec (by decide)) (by decide) d_N_callOut_32 (fun H locs S => ?_)
    refine lv_iconst (v := 0) hx hb d_N_callOut_33 (by decide) ?_
    exact ret _ _ _ _ _ _ S hq d_N_callOut_34
  · have hq := hq.trans (if_neg h16)
    refine lv_bipush (v := 6) hx hb d_N_callOut_19 (by decide) ?_
    exact ret _ _ _ _ _ _ S hq d_N_callOut_21
set_option maxHeartbeats 4000000 in
set_option maxRecDepth 100000 in
theorem c_Fl_meet (v1 : Int32) (σ : nS) : CtZ l D cI cZ (wC cI cZ a) (exC t) y_Fl_meet b_Fl_meet 3 { frames := 0, cells := 0, slots := 0, locals := 0 } [.ref (a 15), .int v1] σ (s_Fl_meet v1 σ, σ) := by
  generalize hF : s_Fl_meet v1 σ = F
  refine metZp (exC_ok t) (by decide) (Nat.le_of_ble_eq_true rfl) (fun p e s m args below meth c A Q ls X S hl ret => ?_)
  have hq := hF.symm
  obtain ⟨hx, hb, hml, hown, hts, hK, hA, hE, hlk, hEo⟩ := id X
  have hl : lv_has ls 3 [(0, .ref (a 15)), (1, .int v1)] := hl
  have B_Fl_meet_127 : ∀ (v2 : Bool) (k0 : Bool) (H : Heap) (locs : List Loc) (ls : Array Slot), lv_has ls 3 [(2, .int (bI v2))] → St D (wC cI cZ a) A s σ H locs → F = s_Fl_meet_127 v2 k0 σ → W p l e ({ frames := 0, cells := 0, slots := 0, locals := 0 } : Room) s m args below meth c H locs 0 0 Q (F0 m 127 ls [.int (bI k0)]) := by
    intro v2 k0 H locs ls hl S hq
    refine lv_iload_n hx hb d_Fl_meet_127 rfl (lv_at hl 0 rfl) ?_
    refine lv_icmp_eq (tgt := 135) hx hb d_Fl_meet_128 rfl (fun h128 => ?_) (fun h128 => ?_)
    · have hq := hq.trans (if_pos h128)
      refine lv_iconst (v := 0) hx hb d_Fl_meet_135 (by decide) ?_
      exact ret _ _ _ _ false S hq d_Fl_meet_136
    · have hq := hq.trans (if_neg h128)
      refine lv_iconst (v := 1) hx hb d_Fl_meet_131 (by decide) ?_
      refine lv_goto (tgt := 136) hx hb d_Fl_meet_132 rfl ?_
      exact ret _ _ _ _ true S hq d_Fl_meet_136
  have B_Fl_meet_126 : ∀ (v2 : Bool) (H : Heap) (locs : List Loc) (ls : Array Slot), lv_has ls 3 [(2, .int (bI v2))] → St D (wC cI cZ a) A s σ H locs → F = s_Fl_meet_126 v2 σ → W p l e ({ frames := 0, cells := 0, slots := 0, locals := 0 } : Room) s m args below meth c H locs 0 0 Q (F0 m 126 ls []) := by
    intro v2 H locs ls hl S hq
    refine lv_iconst (v := 0) hx hb d_Fl_meet_126 (by decide) ?_
    exact B_Fl_meet_127 _ false _ _ _ (lv_sub hl [0] rfl) S hq
  have B_Fl_meet_153 : ∀ (v2 : Bool) (k0 : Bool) (H : Heap) (locs : List Loc) (ls : Array Slot), lv_has ls 3 [(2, .int (bI v2))] → St D (wC cI cZ a) A s σ H locs → F = s_Fl_meet_153 v2 k0 σ → W p l e ({ frames := 0, cells := 0, slots := 0, locals := 0 } : Room) s m args below meth c H locs 0 0 Q (F0 m 153 ls [.int (bI k0)]) := by
    intro v2 k0 H locs ls hl S hq
    refine lv_iload_n hx hb d_Fl_meet_153 rfl (lv_at hl 0 rfl) ?_
    refine lv_icmp_eq (tgt := 161) hx hb d_Fl_meet_154 rfl (fun h154 => ?_) (fun h154 => ?_)
    · have hq := hq.trans (if_pos h154)
      refine lv_iconst (v := 0) hx hb d_Fl_meet_161 (by decide) ?_
      exact ret _ _ _ _ false S hq d_Fl_meet_162
    · have hq := hq.trans (if_neg h154)
      refine lv_iconst (v := 1) hx hb d_Fl_meet_157 (by decide) ?_
      refine lv_goto (tgt := 162) hx hb d_Fl_meet_158 rfl ?_
      exact ret _ _ _ _ true S hq d_Fl_meet_162
  have B_Fl_meet_186 : ∀ (v2 : Bool) (k0 : Bool) (H : Heap) (locs : List Loc) (ls : Array Slot), lv_has ls 3 [(2, .int (bI v2))] → St D (wC cI cZ a) A s σ H locs → F = s_Fl_meet_186 v2 k0 σ → W p l e ({ frames := 0, cells := 0, slots := 0, locals := 0 } : Room) s m args below meth c H locs 0 0 Q (F0 m 186 ls [.int (bI k0)]) := by
    intro v2 k0 H locs ls hl S hq
    refine lv_iload_n hx hb d_Fl_meet_186 rfl (lv_at hl 0 rfl) ?_
    refine lv_icmp_eq (tgt := 194) hx hb d_Fl_meet_187 rfl (fun h187 => ?_) (fun h187 => ?_)
    · have hq := hq.trans (if_pos h187)
      refine lv_iconst (v := 0) hx hb d_Fl_meet_194 (by decide) ?_
      exact ret _ _ _ _ false S hq d_Fl_meet_195
    · have hq := hq.trans (if_neg h187)
      refine lv_iconst (v := 1) hx hb d_Fl_meet_190 (by decide) ?_
      refine lv_goto (tgt := 195) hx hb d_Fl_meet_191 rfl ?_
      exact ret _ _ _ _ true S hq d_Fl_meet_195
  have B_Fl_meet_185 : ∀ (v2 : Bool) (H : Heap) (locs : List Loc) (ls : Array Slot), lv_has ls 3 [(2, .int (bI v2))] → St D (wC cI cZ a) A s σ H locs → F = s_Fl_meet_185 v2 σ → W p l e ({ frames := 0, cells := 0, slots := 0, locals := 0 } : Room) s m args below meth c H locs 0 0 Q (F0 m 185 ls []) := by
    intro v2 H locs ls hl S hq
    refine lv_iconst (v := 0) hx hb d_Fl_meet_185 (by decide) ?_
    exact B_Fl_meet_186 _ false _ _ _ (lv_sub hl [0] rfl) S hq
  have B_Fl_meet_11 : ∀ (v1 : Int32) (k0 : Bool) (H : Heap) (locs : List Loc) (ls : Array Slot), lv_has ls 3 [(0, .ref (a 15)), (1, .int v1)] → St D (wC cI cZ a) A s σ H locs → F = s_Fl_meet_11 v1 k0 σ → W p l e ({ frames := 0, cells := 0, slots := 0, locals := 0 } : Room) s m args below meth c H locs 0 0 Q (F0 m 11 ls [.int (bI k0)]) := by
    intro v1 k0 H locs ls hl S hq
    refine lv_istore_n hx hb d_Fl_meet_11 rfl hl (by decide) rfl (fun ls hl => ?_)
    refine lv_iload_n hx hb d_Fl_meet_12 rfl (lv_at hl 2 rfl) ?_
    refine lv_iconst (v := 1) hx hb d_Fl_meet_13 (by decide) ?_
    refine lv_ishr hx hb d_Fl_meet_14 ?_
    by_cases h15_0 : (v1 >>> ((1 : Int32) &&& 31)) = (0 : Int32)
    · have hq := hq.trans (if_pos h15_0)
      refine lv_tableIn (off := 37) (tgt := 52) hx hb d_Fl_meet_15 (by rw [h15_0]; decide) (by rw [h15_0]; decide) (by rw [h15_0]; rfl) rfl ?_
      refine lv_aload_n hx hb d_Fl_meet_52 rfl (lv_at hl 1 rfl) ?_
      refine g_Fl_13 hx hb hts hown hK S.1 d_Fl_meet_53 ?_
      refine lv_iload_n hx hb d_Fl_meet_56 rfl (lv_at hl 0 rfl) ?_
      refine lv_icmp_eq (tgt := 64) hx hb d_Fl_meet_57 rfl (fun h57 => ?_) (fun h57 => ?_)
      · have hq := hq.trans (if_pos h57)
        refine lv_iconst (v := 0) hx hb d_Fl_meet_64 (by decide) ?_
        exact ret _ _ _ _ false S hq d_Fl_meet_65
      · have hq := hq.trans (if_neg h57)
        refine lv_iconst (v := 1) hx hb d_Fl_meet_60 (by decide) ?_
        refine lv_goto (tgt := 65) hx hb d_Fl_meet_61 rfl ?_
        exact ret _ _ _ _ true S hq d_Fl_meet_65
    · have hq := hq.trans (if_neg h15_0)
      by_cases h15_1 : (v1 >>> ((1 : Int32) &&& 31)) = (1 : Int32)
      · have hq := hq.trans (if_pos h15_1)
        refine lv_tableIn (off := 51) (tgt := 66) hx hb d_Fl_meet_15 (by rw [h15_1]; decide) (by rw [h15_1]; decide) (by rw [h15_1]; rfl) rfl ?_
        refine lv_aload_n hx hb d_Fl_meet_66 rfl (lv_at hl 1 rfl) ?_
        refine g_Fl_16 hx hb hts hown hK S.1 d_Fl_meet_67 ?_
        refine lv_iload_n hx hb d_Fl_meet_70 rfl (lv_at hl 0 rfl) ?_
        refine lv_icmp_eq (tgt := 78) hx hb d_Fl_meet_71 rfl (fun h71 => ?_) (fun h71 => ?_)
        · have hq := hq.trans (if_pos h71)
          refine lv_iconst (v := 0) hx hb d_Fl_meet_78 (by decide) ?_
          exact ret _ _ _ _ false S hq d_Fl_meet_79
        · have hq := hq.trans (if_neg h71)
          refine lv_iconst (v := 1) hx hb d_Fl_meet_74 (by decide) ?_
          refine lv_goto (tgt := 79) hx hb d_Fl_meet_75 rfl ?_
          exact ret _ _ _ _ true S hq d_Fl_meet_79
      · have hq := hq.trans (if_neg h15_1)
        by_cases h15_2 : (v1 >>> ((1 : Int32) &&& 31)) = (2 : Int32)
        · have hq := hq.trans (if_pos h15_2)
          refine lv_tableIn (off := 65) (tgt := 80) hx hb d_Fl_meet_15 (by rw [h15_2]; decide) (by rw [h15_2]; decide) (by rw [h15_2]; rfl) rfl ?_
          refine lv_aload_n hx hb d_Fl_meet_80 rfl (lv_at hl 1 rfl) ?_
          refine g_Fl_7 hx hb hts hown hK S.1 d_Fl_meet_81 ?_
          refine lv_iload_n hx hb d_Fl_meet_84 rfl (lv_at hl 0 rfl) ?_
          refine lv_icmp_eq (tgt := 92) hx hb d_Fl_meet_85 rfl (fun h85 => ?_) (fun h85 => ?_)
          · have hq := hq.trans (if_pos h85)
            refine lv_iconst (v := 0) hx hb d_Fl_meet_92 (by decide) ?_
            exact ret _ _ _ _ false S hq d_Fl_meet_93
          · have hq := hq.trans (if_neg h85)
            refine lv_iconst (v := 1) hx hb d_Fl_meet_88 (by decide) ?_
            refine lv_goto (tgt := 93) hx hb d_Fl_meet_89 rfl ?_
            exact ret _ _ _ _ true S hq d_Fl_meet_93
        · have hq := hq.trans (if_neg h15_2)
          by_cases h15_3 : (v1 >>> ((1 : Int32) &&& 31)) = (3 : Int32)
          · have hq := hq.trans (if_pos h15_3)
            refine lv_tableIn (off := 79) (tgt := 94) hx hb d_Fl_meet_15 (by rw [h15_3]; decide) (by rw [h15_3]; decide) (by rw [h15_3]; rfl) rfl ?_
            refine lv_aload_n hx hb d_Fl_meet_94 rfl (lv_at hl 1 rfl) ?_
            refine g_Fl_21 hx hb hts hown hK S.1 d_Fl_meet_95 ?_
            refine lv_iload_n hx hb d_Fl_meet_98 rfl (lv_at hl 0 rfl) ?_
            refine lv_icmp_eq (tgt := 106) hx hb d_Fl_meet_99 rfl (fun h99 => ?_) (fun h99 => ?_)
            · have hq := hq.trans (if_pos h99)
              refine lv_iconst (v := 0) hx hb d_Fl_meet_106 (by decide) ?_
              exact ret _ _ _ _ false S hq d_Fl_meet_107
            · have hq := hq.trans (if_neg h99)
              refine lv_iconst (v := 1) hx hb d_Fl_meet_102 (by decide) ?_
              refine lv_goto (tgt := 107) hx hb d_Fl_meet_103 rfl ?_
              exact ret _ _ _ _ true S hq d_Fl_meet_107
          · have hq := hq.trans (if_neg h15_3)
            by_cases h15_4 : (v1 >>> ((1 : Int32) &&& 31)) = (4 : Int32)
            · have hq := hq.trans (if_pos h15_4)
              refine lv_tableIn (off := 93) (tgt := 108) hx hb d_Fl_meet_15 (by rw [h15_4]; decide) (by rw [h15_4]; decide) (by rw [h15_4]; rfl) rfl ?_
              refine lv_aload_n hx hb d_Fl_meet_108 rfl (lv_at hl 1 rfl) ?_
              refine g_Fl_16 hx hb hts hown hK S.1 d_Fl_meet_109 ?_
              refine lv_if_eq (tgt := 126) hx hb d_Fl_meet_112 rfl (fun h112 => ?_) (fun h112 => ?_)
              · have hq := hq.trans (if_pos h112)
                exact B_Fl_meet_126 _ _ _ _ (lv_sub hl [0] rfl) S hq
              · have hq := hq.trans (if_neg h112)
                refine lv_aload_n hx hb d_Fl_meet_115 rfl (lv_at hl 1 rfl) ?_
                refine g_Fl_13 hx hb hts hown hK S.1 d_Fl_meet_116 ?_
                refine lv_if_ne (tgt := 126) hx hb d_Fl_meet_119 rfl (fun h119 => ?_) (fun h119 => ?_)
                · have hq := hq.trans (if_neg h119)
                  exact B_Fl_meet_126 _ _ _ _ (lv_sub hl [0] rfl) S hq
                · have hq := hq.trans (if_pos h119)
                  refine lv_iconst (v := 1) hx hb d_Fl_meet_122 (by decide) ?_
                  refine lv_goto (tgt := 127) hx hb d_Fl_meet_123 rfl ?_
                  exact B_Fl_meet_127 _ true _ _ _ (lv_sub hl [0] rfl) S hq
            · have hq := hq.trans (if_neg h15_4)
              by_cases h15_5 : (v1 >>> ((1 : Int32) &&& 31)) = (5 : Int32)
              · have hq := hq.trans (if_pos h15_5)
                refine lv_tableIn (off := 122) (tgt := 137) hx hb d_Fl_meet_15 (by rw [h15_5]; decide) (by rw [h15_5]; decide) (by rw [h15_5]; rfl) rfl ?_
                refine lv_aload_n hx hb d_Fl_meet_137 rfl (lv_at hl 1 rfl) ?_
                refine g_Fl_7 hx hb hts hown hK S.1 d_Fl_meet_138 ?_
                refine lv_aload_n hx hb d_Fl_meet_141 rfl (lv_at hl 1 rfl) ?_
                refine g_Fl_21 hx hb hts hown hK S.1 d_Fl_meet_142 ?_
                refine lv_icmp_ne (tgt := 152) hx hb d_Fl_meet_145 rfl (fun h145 => ?_) (fun h145 => ?_)
                · have hq := hq.trans (if_neg h145)
                  refine lv_iconst (v := 0) hx hb d_Fl_meet_152 (by decide) ?_
                  exact B_Fl_meet_153 _ false _ _ _ (lv_sub hl [0] rfl) S hq
                · have hq := hq.trans (if_pos h145)
                  refine lv_iconst (v := 1) hx hb d_Fl_meet_148 (by decide) ?_
                  refine lv_goto (tgt := 153) hx hb d_Fl_meet_149 rfl ?_
                  exact B_Fl_meet_153 _ true _ _ _ (lv_sub hl [0] rfl) S hq
              · have hq := hq.trans (if_neg h15_5)
                have h15_0T := lv_neT (a := 0) h15_0 (by decide)
                have h15_1T := lv_neT (a := 1) h15_1 (by decide)
                have h15_2T := lv_neT (a := 2) h15_2 (by decide)
                have h15_3T := lv_neT (a := 3) h15_3 (by decide)
                have h15_4T := lv_neT (a := 4) h15_4 (by decide)
                have h15_5T := lv_neT (a := 5) h15_5 (by decide)
                refine lv_tableOut (tgt := 163) hx hb d_Fl_meet_15 (by omega) rfl ?_
                refine lv_aload_n hx hb d_Fl_meet_163 rfl (lv_at hl 1 rfl) ?_
                refine g_Fl_13 hx hb hts hown hK S.1 d_Fl_meet_164 ?_
                refine lv_if_ne (tgt := 185) hx hb d_Fl_meet_167 rfl (fun h167 => ?_) (fun h167 => ?_)
                · have hq := hq.trans (if_neg h167)
                  exact B_Fl_meet_185 _ _ _ _ (lv_sub hl [0] rfl) S hq
                · have hq := hq.trans (if_pos h167)
                  refine lv_aload_n hx hb d_Fl_meet_170 rfl (lv_at hl 1 rfl) ?_
                  refine g_Fl_7 hx hb hts hown hK S.1 d_Fl_meet_171 ?_
                  refine lv_aload_n hx hb d_Fl_meet_174 rfl (lv_at hl 1 rfl) ?_
                  refine g_Fl_21 hx hb hts hown hK S.1 d_Fl_meet_175 ?_
                  refine lv_icmp_ne (tgt := 185) hx hb d_Fl_meet_178 rfl (fun h178 => ?_) (fun h178 => ?_)
                  · have hq := hq.trans (if_neg h178)
                    exact B_Fl_meet_185 _ _ _ _ (lv_sub hl [0] rfl) S hq
                  · have hq := hq.trans (if_pos h178)
                    refine lv_iconst (v := 1) hx hb d_Fl_meet_181 (by decide) ?_
                    refine lv_goto (tgt := 186) hx hb d_Fl_meet_182 rfl ?_
                    exact B_Fl_meet_186 _ true _ _ _ (lv_sub hl [0] rfl) S hq
  refine lv_iload_n hx hb d_Fl_meet_0 rfl (lv_at hl 1 rfl) ?_
  refine lv_iconst (v := 1) hx hb d_Fl_meet_1 (by decide) ?_
  refine lv_iand hx hb d_Fl_meet_2 ?_
  refine lv_if_eq (tgt := 10) hx hb d_Fl_meet_3 rfl (fun h3 => ?_) (fun h3 => ?_)
  · have hq := hq.trans (if_pos h3)
    refine lv_iconst (v := 0) hx hb d_Fl_meet_10 (by decide) ?_
    exact B_Fl_meet_11 _ false _ _ _ (lv_sub hl [0, 1] rfl) S hq
  · have hq := hq.trans (if_neg h3)
    refine lv_iconst (v := 1) hx hb d_Fl_meet_6 (by decide) ?_
    refine lv_goto (tgt := 11) hx hb d_Fl_meet_7 rfl ?_
    exact B_Fl_meet_11 _ true _ _ _ (lv_sub hl [0, 1] rfl) S hq
set_option maxHeartbeats 4000000 in
set_option maxRecDepth 100000 in
theorem c_N_branchIf (v1 : Int32) (σ : nS) : CtI l D cI cZ (wC cI cZ a) (exC t) y_N_branchIf b_N_branchIf 3 { frames := 1, cells := 0, slots := 0, locals := 22 } [.ref (a 0), .int v1] σ (s_N_branchIf v1 σ) := by
  generalize hF : s_N_branchIf v1 σ = F
  refine metI (exC_ok t) (by decide) (Nat.le_of_ble_eq_true rfl) (fun p e s m args below meth c A Q ls X S hl ret => ?_)
  have hq := hF.symm
  obtain ⟨hx, hb, hml, hown, hts, hK, hA, hE, hlk, hEo⟩ := id X
  have hl : lv_has ls 3 [(0, .ref (a 0)), (1, .int v1)] := hl
  have B_N_branchIf_44 : ∀ (σ : nS) (H : Heap) (locs : List Loc) (ls : Array Slot), lv_has ls 3 [] → St D (wC cI cZ a) A s σ H locs → F = s_N_branchIf_44 σ → W p l e ({ frames := 1, cells := 0, slots := 0, locals := 22 } : Room) s m args below meth c H locs 0 0 Q (F0 m 44 ls []) := by
    intro σ H locs ls hl S hq
    refine lv_iconst (v := 0) hx hb d_N_branchIf_44 (by decide) ?_
    exact ret _ _ _ _ _ _ S hq d_N_branchIf_45
  refine lv_iload_n hx hb d_N_branchIf_0 rfl (lv_at hl 1 rfl) ?_
  refine lv_bipush (v := 8) hx hb d_N_branchIf_1 (by decide) ?_
  refine lv_ishr hx hb d_N_branchIf_3 ?_
  refine lv_bipush (v := 15) hx hb d_N_branchIf_4 (by decide) ?_
  refine lv_iand hx hb d_N_branchIf_6 ?_
  refine lv_istore_n hx hb d_N_branchIf_7 rfl hl (by decide) rfl (fun ls hl => ?_)
  refine lv_iload_n hx hb d_N_branchIf_8 rfl (lv_at hl 0 rfl) ?_
  refine lv_bipush (v := 13) hx hb d_N_branchIf_9 (by decide) ?_
  refine lv_icmp_le (tgt := 17) hx hb d_N_branchIf_11 rfl (fun h11 => ?_) (fun h11 => ?_)
  · have hq := hq.trans (if_pos h11)
    refine lv_aload_n hx hb d_N_branchIf_17 rfl (lv_at hl 1 rfl) ?_
    refine g_N_40 hx hb hts hown hK S.1 d_N_branchIf_18 ?_
    refine lv_iload_n hx hb d_N_branchIf_21 rfl (lv_at hl 0 rfl) ?_
    refine callVZp X S hl (c_Fl_meet ((v1 >>> ((8 : Int32) &&& 31)) &&& (15 : Int32)) _) v_N_294 15 4 ⟨rfl, rfl⟩ (rk_dec (by decide)) rfl rfl (Nat.le_of_ble_eq_true rfl) d_N_branchIf_22 (fun H locs S => ?_)
    refine r_ifeqZ (tgt := 44) hx hb d_N_branchIf_25 rfl (fun h25 => ?_) (fun h25 => ?_)
    · have hq := hq.trans (if_neg h25)
      exact B_N_branchIf_44 _ _ _ _ (lv_sub hl [] rfl) S hq
    · have hq := hq.trans (if_pos h25)
      refine lv_aload_n hx hb d_N_branchIf_28 rfl (lv_at hl 1 rfl) ?_
      refine g_N_9 hx hb hts hown hK S.1 d_N_branchIf_29 ?_
      refine lv_bipush (v := 15) hx hb d_N_branchIf_32 (by decide) ?_
      refine lv_dup2_11 hx hb d_N_branchIf_34 rfl rfl ?_
      refine ld_C_1 (k := 15) hx hb hK S.1 (vin_dec (by decide)) (by decide) d_N_branchIf_35 ?_
      refine lv_iconst (v := 2) hx hb d_N_branchIf_36 (by decide) ?_
      refine lv_iconst (v := 2) hx hb d_N_branchIf_37 (by decide) ?_
      refine lv_iload_n hx hb d_N_branchIf_38 rfl (lv_at hl 2 rfl) ?_
      refine lv_i2b hx hb d_N_branchIf_39 rfl ?_
      refine lv_imul hx hb d_N_branchIf_40 ?_
      refine lv_iadd hx hb d_N_branchIf_41 ?_
      refine lv_iadd hx hb d_N_branchIf_42 ?_
      refine st_C_1 (k := 15) hx hb hK S (vin_dec (by decide)) (by decide) d_N_branchIf_43 (fun H locs S => ?_)
      exact B_N_branchIf_44 _ _ _ _ (lv_sub hl [] rfl) S hq
  · have hq := hq.trans (if_neg h11)
    refine lv_bipush (v := 6) hx hb d_N_branchIf_14 (by decide) ?_
    exact ret _ _ _ _ _ _ S hq d_N_branchIf_16
set_option maxHeartbeats 4000000 in
set_option maxRecDepth 100000 in
theorem c_N_branch (v1 : Int32) (σ : nS) : CtI l D cI cZ (wC cI cZ a) (exC t) y_N_branch b_N_branch 2 { frames := 0, cells := 0, slots := 0, locals := 0 } [.ref (a 0), .int v1] σ (s_N_branch v1 σ) := by
  generalize hF : s_N_branch v1 σ = F
  refine metI (exC_ok t) (by decide) (Nat.le_of_ble_eq_true rfl) (fun p e s m args below meth c A Q ls X S hl ret => ?_)
  have hq := hF.symm
  obtain ⟨hx, hb, hml, hown, hts, hK, hA, hE, hlk, hEo⟩ := id X
  have hl : lv_has ls 2 [(0, .ref (a 0)), (1, .int v1)] := hl
  refine lv_iload_n hx hb d_N_branch_0 rfl (lv_at hl 1 rfl) ?_
  refine lv_bipush (v := 11) hx hb d_N_branch_1 (by decide) ?_
  refine lv_ishr hx hb d_N_branch_3 ?_
  refine lv_iconst (v := 1) hx hb d_N_branch_4 (by decide) ?_
  refine lv_iand hx hb d_N_branch_5 ?_
  refine lv_if_eq (tgt := 12) hx hb d_N_branch_6 rfl (fun h6 => ?_) (fun h6 => ?_)
  · have hq := hq.trans (if_pos h6)
    refine lv_aload_n hx hb d_N_branch_12 rfl (lv_at hl 0 rfl) ?_
    refine g_N_9 hx hb hts hown hK S.1 d_N_branch_13 ?_
    refine lv_bipush (v := 15) hx hb d_N_branch_16 (by decide) ?_
    refine lv_dup2_11 hx hb d_N_branch_18 rfl rfl ?_
    refine ld_C_1 (k := 15) hx hb hK S.1 (vin_dec (by decide)) (by decide) d_N_branch_19 ?_
    refine lv_iconst (v := 2) hx hb d_N_branch_20 (by decide) ?_
    refine lv_iconst (v := 2) hx hb d_N_branch_21 (by decide) ?_
    refine lv_iload_n hx hb d_N_branch_22 rfl (lv_at hl 1 rfl) ?_
    refine lv_bipush (v := 21) hx hb d_N_branch_23 (by decide) ?_
    refine lv_ishl hx hb d_N_branch_25 ?_
    refine lv_bipush (v := 21) hx hb d_N_branch_26 (by decide) ?_
    refine lv_ishr hx hb d_N_branch_28 ?_
    refine lv_imul hx hb d_N_branch_29 ?_
    refine lv_iadd hx hb d_N_branch_30 ?_
    refine lv_iadd hx hb d_N_branch_31 ?_
    refine st_C_1 (k := 15) hx hb hK S (vin_dec (by decide)) (by decide) d_N_branch_32 (fun H locs S => ?_)
    refine lv_iconst (v := 0) hx hb d_N_branch_33 (by decide) ?_
    exact ret _ _ _ _ _ _ S hq d_N_branch_34
  · have hq := hq.trans (if_neg h6)
    refine lv_bipush (v := 6) hx hb d_N_branch_9 (by decide) ?_
    exact ret _ _ _ _ _ _ S hq d_N_branch_11
set_option maxHeartbeats 4000000 in
set_option maxRecDepth 100000 in
theorem c_N_execute (v1 : Int32) (σ : nS) (hok : o_N_execute v1 σ) : CtI l D cI cZ (wC cI cZ a) (exC t) y_N_execute b_N_execute 2 { frames := 4, cells := 0, slots := 0, locals := 129 } [.ref (a 0), .int v1] σ (s_N_execute v1 σ) := by
  generalize hF : s_N_execute v1 σ = F
  refine metI (exC_ok t) (by decide) (Nat.le_of_ble_eq_true rfl) (fun p e s m args below meth c A Q ls X S hl ret => ?_)
  have hq := hF.symm
  obtain ⟨hx, hb, hml, hown, hts, hK, hA, hE, hlk, hEo⟩ := id X
  have hl : lv_has ls 2 [(0, .ref (a 0)), (1, .int v1)] := hl
  refine lv_iload_n hx hb d_N_execute_0 rfl (lv_at hl 1 rfl) ?_
  refine lv_bipush (v := 12) hx hb d_N_execute_1 (by decide) ?_
  refine lv_ishr hx hb d_N_execute_3 ?_
  by_cases h4_0 : (v1 >>> ((12 : Int32) &&& 31)) = (0 : Int32)
  · have hq := hq.trans (if_pos h4_0)
    have hok := ok_pos h4_0 hok
    refine lv_tableIn (off := 76) (tgt := 80) hx hb d_N_execute_4 (by rw [h4_0]; decide) (by rw [h4_0]; decide) (by rw [h4_0]; rfl) rfl ?_
    refine lv_iload_n hx hb d_N_execute_80 rfl (lv_at hl 1 rfl) ?_
    refine lv_bipush (v := 11) hx hb d_N_execute_81 (by decide) ?_
    refine lv_ishr hx hb d_N_execute_83 ?_
    refine lv_iconst (v := 3) hx hb d_N_execute_84 (by decide) ?_
    refine lv_icmp_ge (tgt := 96) hx hb d_N_execute_85 rfl (fun h85 => ?_) (fun h85 => ?_)
    · have hq := hq.trans (if_pos h85)
      have hok := ok_pos h85 hok
      refine lv_aload_n hx hb d_N_execute_96 rfl (lv_at hl 0 rfl) ?_
      refine lv_iload_n hx hb d_N_execute_97 rfl (lv_at hl 1 rfl) ?_
      refine callVI X S hl (c_N_addThree v1 _) v_N_224 0 0 ⟨rfl, rfl⟩ (rk_dec (by decide)) rfl rfl (Nat.le_of_ble_eq_true rfl) d_N_execute_98 (fun r1 σ1 H locs e1 S => ?_)
      have hq := hq.trans (ap2_eq e1)
      have hok := ok_ap2 e1 hok
      exact ret _ _ _ _ _ _ S hq d_N_execute_101
    · have hq := hq.trans (if_neg h85)
      have hok := ok_neg h85 hok
      refine lv_aload_n hx hb d_N_execute_88 rfl (lv_at hl 0 rfl) ?_
      refine lv_iload_n hx hb d_N_execute_89 rfl (lv_at hl 1 rfl) ?_
      refine callVI X S hl (c_N_shift v1 _) v_N_221 0 0 ⟨rfl, rfl⟩ (rk_dec (by decide)) rfl rfl (Nat.le_of_ble_eq_true rfl) d_N_execute_90 (fun r1 σ1 H locs e1 S => ?_)
      have hq := hq.trans (ap2_eq e1)
      have hok := ok_ap2 e1 hok
      refine lv_goto (tgt := 101) hx hb d_N_execute_93 rfl ?_
      exact ret _ _ _ _ _ _ S hq d_N_execute_101
  · have hq := hq.trans (if_neg h4_0)
    have hok := ok_neg h4_0 hok
    by_cases h4_1 : (v1 >>> ((12 : Int32) &&& 31)) = (1 : Int32)
    · have hq := hq.trans (if_pos h4_1)
      have hok := ok_pos h4_1 hok
      refine lv_tableIn (off := 76) (tgt := 80) hx hb d_N_execute_4 (by rw [h4_1]; decide) (by rw [h4_1]; decide) (by rw [h4_1]; rfl) rfl ?_
      refine lv_iload_n hx hb d_N_execute_80 rfl (lv_at hl 1 rfl) ?_
      refine lv_bipush (v := 11) hx hb d_N_execute_81 (by decide) ?_
      refine lv_ishr hx hb d_N_execute_83 ?_
      refine lv_iconst (v := 3) hx hb d_N_execute_84 (by decide) ?_
      refine lv_icmp_ge (tgt := 96) hx hb d_N_execute_85 rfl (fun h85 => ?_) (fun h85 => ?_)
      · have hq := hq.trans (if_pos h85)
        have hok := ok_pos h85 hok
        refine lv_aload_n hx hb d_N_execute_96 rfl (lv_at hl 0 rfl) ?_
        refine lv_iload_n hx hb d_N_execute_97 rfl (lv_at hl 1 rfl) ?_
        refine callVI X S hl (c_N_addThree v1 _) v_N_224 0 0 ⟨rfl, rfl⟩ (rk_dec (by decide)) rfl rfl (Nat.le_of_ble_eq_true rfl) d_N_execute_98 (fun r1 σ1 H locs e1 S => ?_)
        have hq := hq.trans (ap2_eq e1)
        have hok := ok_ap2 e1 hok
        exact ret _ _ _ _ _ _ S hq d_N_execute_101
      · have hq := hq.trans (if_neg h85)
        have hok := ok_neg h85 hok
        refine lv_aload_n hx hb d_N_execute_88 rfl (lv_at hl 0 rfl) ?_
        refine lv_iload_n hx hb d_N_execute_89 rfl (lv_at hl 1 rfl) ?_
        refine callVI X S hl (c_N_shift v1 _) v_N_221 0 0 ⟨rfl, rfl⟩ (rk_dec (by decide)) rfl rfl (Nat.le_of_ble_eq_true rfl) d_N_execute_90 (fun r1 σ1 H locs e1 S => ?_)
        have hq := hq.trans (ap2_eq e1)
        have hok := ok_ap2 e1 hok
        refine lv_goto (tgt := 101) hx hb d_N_execute_93 rfl ?_
        exact ret _ _ _ _ _ _ S hq d_N_execute_101
    · have hq := hq.trans (if_neg h4_1)
      have hok := ok_neg h4_1 hok
      by_cases h4_2 : (v1 >>> ((12 : Int32) &&& 31)) = (2 : Int32)
      · have hq := hq.trans (if_pos h4_2)
        have hok := ok_pos h4_2 hok
        refine lv_tableIn (off := 98) (tgt := 102) hx hb d_N_execute_4 (by rw [h4_2]; decide) (by rw [h4_2]; decide) (by rw [h4_2]; rfl) rfl ?_
        refine lv_aload_n hx hb d_N_execute_102 rfl (lv_at hl 0 rfl) ?_
        refine lv_iload_n hx hb d_N_execute_103 rfl (lv_at hl 1 rfl) ?_
        refine callVI X S hl (c_N_withNumber v1 _) v_N_227 0 0 ⟨rfl, rfl⟩ (rk_dec (by decide)) rfl rfl (Nat.le_of_ble_eq_true rfl) d_N_execute_104 (fun r1 σ1 H locs e1 S => ?_)
        have hq := hq.trans (ap2_eq e1)
        have hok := ok_ap2 e1 hok
        exact ret _ _ _ _ _ _ S hq d_N_execute_107
      · have hq := hq.trans (if_neg h4_2)
        have hok := ok_neg h4_2 hok
        by_cases h4_3 : (v1 >>> ((12 : Int32) &&& 31)) = (3 : Int32)
        · have hq := hq.trans (if_pos h4_3)
          have hok := ok_pos h4_3 hok
          refine lv_tableIn (off := 98) (tgt := 102) hx hb d_N_execute_4 (by rw [h4_3]; decide) (by rw [h4_3]; decide) (by rw [h4_3]; rfl) rfl ?_
          refine lv_aload_n hx hb d_N_execute_102 rfl (lv_at hl 0 rfl) ?_
          refine lv_iload_n hx hb d_N_execute_103 rfl (lv_at hl 1 rfl) ?_
          refine callVI X S hl (c_N_withNumber v1 _) v_N_227 0 0 ⟨rfl, rfl⟩ (rk_dec (by decide)) rfl rfl (Nat.le_of_ble_eq_true rfl) d_N_execute_104 (fun r1 σ1 H locs e1 S => ?_)
          have hq := hq.trans (ap2_eq e1)
          have hok := ok_ap2 e1 hok
          exact ret _ _ _ _ _ _ S hq d_N_execute_107
        · have hq := hq.trans (if_neg h4_3)
          have hok := ok_neg h4_3 hok
          by_cases h4_4 : (v1 >>> ((12 : Int32) &&& 31)) = (4 : Int32)
          · have hq := hq.trans (if_pos h4_4)
            have hok := ok_pos h4_4 hok
            refine lv_tableIn (off := 104) (tgt := 108) hx hb d_N_execute_4 (by rw [h4_4]; decide) (by rw [h4_4]; decide) (by rw [h4_4]; rfl) rfl ?_
            refine lv_iload_n hx hb d_N_execute_108 rfl (lv_at hl 1 rfl) ?_
            refine lv_bipush (v := 10) hx hb d_N_execute_109 (by decide) ?_
            refine lv_ishr hx hb d_N_execute_111 ?_
            refine lv_bipush (v := 16) hx hb d_N_execute_112 (by decide) ?_
            refine lv_icmp_ne (tgt := 125) hx hb d_N_execute_114 rfl (fun h114 => ?_) (fun h114 => ?_)
            · have hq := hq.trans (if_neg h114)
              have hok := ok_neg h114 hok
              refine lv_aload_n hx hb d_N_execute_125 rfl (lv_at hl 0 rfl) ?_
              refine lv_iload_n hx hb d_N_execute_126 rfl (lv_at hl 1 rfl) ?_
              refine callVI X S hl (c_N_copyOrBranch v1 _) v_N_233 0 0 ⟨rfl, rfl⟩ (rk_dec (by decide)) rfl rfl (Nat.le_of_ble_eq_true rfl) d_N_execute_127 (fun r1 σ1 H locs e1 S => ?_)
              have hq := hq.trans (ap2_eq e1)
              have hok := ok_ap2 e1 hok
              exact ret _ _ _ _ _ _ S hq d_N_execute_130
            · have hq := hq.trans (if_pos h114)
              have hok := ok_pos h114 hok
              refine lv_aload_n hx hb d_N_execute_117 rfl (lv_at hl 0 rfl) ?_
              refine lv_iload_n hx hb d_N_execute_118 rfl (lv_at hl 1 rfl) ?_
              refine callVI X S hl (c_N_combine v1 _) v_N_230 0 0 ⟨rfl, rfl⟩ (rk_dec (by decide)) rfl rfl (Nat.le_of_ble_eq_true rfl) d_N_execute_119 (fun r1 σ1 H locs e1 S => ?_)
              have hq := hq.trans (ap2_eq e1)
              have hok := ok_ap2 e1 hok
              refine lv_goto (tgt := 130) hx hb d_N_execute_122 rfl ?_
              exact ret _ _ _ _ _ _ S hq d_N_execute_130
          · have hq := hq.trans (if_neg h4_4)
            have hok := ok_neg h4_4 hok
            by_cases h4_5 : (v1 >>> ((12 : Int32) &&& 31)) = (5 : Int32)
            · have hq := hq.trans (if_pos h4_5)
              have hok := ok_pos h4_5 hok
              refine lv_tableIn (off := 221) (tgt := 225) hx hb d_N_execute_4 (by rw [h4_5]; decide) (by rw [h4_5]; decide) (by rw [h4_5]; rfl) rfl ?_
              refine lv_bipush (v := 6) hx hb d_N_execute_225 (by decide) ?_
              exact ret _ _ _ _ _ _ S hq d_N_execute_227
            · have hq := hq.trans (if_neg h4_5)
              have hok := ok_neg h4_5 hok
              by_cases h4_6 : (v1 >>> ((12 : Int32) &&& 31)) = (6 : Int32)
              · have hq := hq.trans (if_pos h4_6)
                have hok := ok_pos h4_6 hok
                refine lv_tableIn (off := 127) (tgt := 131) hx hb d_N_execute_4 (by rw [h4_6]; decide) (by rw [h4_6]; decide) (by rw [h4_6]; rfl) rfl ?_
                refine lv_aload_n hx hb d_N_execute_131 rfl (lv_at hl 0 rfl) ?_
                refine lv_iload_n hx hb d_N_execute_132 rfl (lv_at hl 1 rfl) ?_
                refine lv_iload_n hx hb d_N_execute_133 rfl (lv_at hl 1 rfl) ?_
                refine lv_bipush (v := 7) hx hb d_N_execute_134 (by decide) ?_
                refine lv_iand hx hb d_N_execute_136 ?_
                refine lv_aload_n hx hb d_N_execute_137 rfl (lv_at hl 0 rfl) ?_
                refine g_N_9 hx hb hts hown hK S.1 d_N_execute_138 ?_
                refine lv_iload_n hx hb d_N_execute_141 rfl (lv_at hl 1 rfl) ?_
                refine lv_iconst (v := 3) hx hb d_N_execute_142 (by decide) ?_
                refine lv_ishr hx hb d_N_execute_143 ?_
                refine lv_bipush (v := 7) hx hb d_N_execute_144 (by decide) ?_
                refine lv_iand hx hb d_N_execute_146 ?_
                refine ld_C_1 (k := (((v1 >>> ((3 : Int32) &&& 31)) &&& (7 : Int32))).toNatClampNeg) hx hb hK S.1 (vin_and7_16 _) rfl d_N_execute_147 ?_
                refine lv_iconst (v := 4) hx hb d_N_execute_148 (by decide) ?_
                refine lv_iload_n hx hb d_N_execute_149 rfl (lv_at hl 1 rfl) ?_
                refine lv_bipush (v := 6) hx hb d_N_execute_150 (by decide) ?_
                refine lv_ishr hx hb d_N_execute_152 ?_
                refine lv_bipush (v := 31) hx hb d_N_execute_153 (by decide) ?_
                refine lv_iand hx hb d_N_execute_155 ?_
                refine lv_imul hx hb d_N_execute_156 ?_
                refine lv_iadd hx hb d_N_execute_157 ?_
                obtain ⟨g1, hok⟩ := hok
                refine callVI X S hl (c_N_move v1 (v1 &&& (7 : Int32)) ((σ 0 (((v1 >>> ((3 : Int32) &&& 31)) &&& (7 : Int32))).toNatClampNeg) + ((4 : Int32) * ((v1 >>> ((6 : Int32) &&& 31)) &&& (31 : Int32)))) _ (vin_and7_16 _) g1) v_N_236 0 0 ⟨rfl, rfl⟩ (rk_dec (by decide)) rfl rfl (Nat.le_of_ble_eq_true rfl) d_N_execute_158 (fun r1 σ1 H locs e1 S => ?_)
                have hq := hq.trans (ap2_eq e1)
                have hok := ok_ap2 e1 hok
                exact ret _ _ _ _ _ _ S hq d_N_execute_161
              · have hq := hq.trans (if_neg h4_6)
                have hok := ok_neg h4_6 hok
                by_cases h4_7 : (v1 >>> ((12 : Int32) &&& 31)) = (7 : Int32)
                · have hq := hq.trans (if_pos h4_7)
                  have hok := ok_pos h4_7 hok
                  refine lv_tableIn (off := 221) (tgt := 225) hx hb d_N_execute_4 (by rw [h4_7]; decide) (by rw [h4_7]; decide) (by rw [h4_7]; rfl) rfl ?_
                  refine lv_bipush (v := 6) hx hb d_N_execute_225 (by decide) ?_
                  exact ret _ _ _ _ _ _ S hq d_N_execute_227
                · have hq := hq.trans (if_neg h4_7)
                  have hok := ok_neg h4_7 hok
                  by_cases h4_8 : (v1 >>> ((12 : Int32) &&& 31)) = (8 : Int32)
                  · have hq := hq.trans (if_pos h4_8)
                    have hok := ok_pos h4_8 hok
                    refine lv_tableIn (off := 221) (tgt := 225) hx hb d_N_execute_4 (by rw [h4_8]; decide) (by rw [h4_8]; decide) (by rw [h4_8]; rfl) rfl ?_
                    refine lv_bipush (v := 6) hx hb d_N_execute_225 (by decide) ?_
                    exact ret _ _ _ _ _ _ S hq d_N_execute_227
                  · have hq := hq.trans (if_neg h4_8)
                    have hok := ok_neg h4_8 hok
                    by_cases h4_9 : (v1 >>> ((12 : Int32) &&& 31)) = (9 : Int32)
                    · have hq := hq.trans (if_pos h4_9)
                      have hok := ok_pos h4_9 hok
                      refine lv_tableIn (off := 158) (tgt := 162) hx hb d_N_execute_4 (by rw [h4_9]; decide) (by rw [h4_9]; decide) (by rw [h4_9]; rfl) rfl ?_
                      refine lv_aload_n hx hb d_N_execute_162 rfl (lv_at hl 0 rfl) ?_
                      refine lv_iload_n hx hb d_N_execute_163 rfl (lv_at hl 1 rfl) ?_
                      refine lv_iload_n hx hb d_N_execute_164 rfl (lv_at hl 1 rfl) ?_
                      refine lv_bipush (v := 8) hx hb d_N_execute_165 (by decide) ?_
                      refine lv_ishr hx hb d_N_execute_167 ?_
                      refine lv_bipush (v := 7) hx hb d_N_execute_168 (by decide) ?_
                      refine lv_iand hx hb d_N_execute_170 ?_
                      refine lv_aload_n hx hb d_N_execute_171 rfl (lv_at hl 0 rfl) ?_
                      refine g_N_9 hx hb hts hown hK S.1 d_N_execute_172 ?_
                      refine lv_bipush (v := 13) hx hb d_N_execute_175 (by decide) ?_
                      refine ld_C_1 (k := 13) hx hb hK S.1 (vin_dec (by decide)) (by decide) d_N_execute_177 ?_
                      refine lv_iconst (v := 4) hx hb d_N_execute_178 (by decide) ?_
                      refine lv_iload_n hx hb d_N_execute_179 rfl (lv_at hl 1 rfl) ?_
                      refine lv_sipush (v := 255) hx hb d_N_execute_180 (by decide) ?_
                      refine lv_iand hx hb d_N_execute_183 ?_
                      refine lv_imul hx hb d_N_execute_184 ?_
                      refine lv_iadd hx hb d_N_execute_185 ?_
                      obtain ⟨g2, hok⟩ := hok
                      refine callVI X S hl (c_N_move v1 ((v1 >>> ((8 : Int32) &&& 31)) &&& (7 : Int32)) ((σ 0 13) + ((4 : Int32) * (v1 &&& (255 : Int32)))) _ (vin_and7_16 _) g2) v_N_236 0 0 ⟨rfl, rfl⟩ (rk_dec (by decide)) rfl rfl (Nat.le_of_ble_eq_true rfl) d_N_execute_186 (fun r1 σ1 H locs e1 S => ?_)
                      have hq := hq.trans (ap2_eq e1)
                      have hok := ok_ap2 e1 hok
                      exact ret _ _ _ _ _ _ S hq d_N_execute_189
                    · have hq := hq.trans (if_neg h4_9)
                      have hok := ok_neg h4_9 hok
                      by_cases h4_10 : (v1 >>> ((12 : Int32) &&& 31)) = (10 : Int32)
                      · have hq := hq.trans (if_pos h4_10)
                        have hok := ok_pos h4_10 hok
                        refine lv_tableIn (off := 221) (tgt := 225) hx hb d_N_execute_4 (by rw [h4_10]; decide) (by rw [h4_10]; decide) (by rw [h4_10]; rfl) rfl ?_
                        refine lv_bipush (v := 6) hx hb d_N_execute_225 (by decide) ?_
                        exact ret _ _ _ _ _ _ S hq d_N_execute_227
                      · have hq := hq.trans (if_neg h4_10)
                        have hok := ok_neg h4_10 hok
                        by_cases h4_11 : (v1 >>> ((12 : Int32) &&& 31)) = (11 : Int32)
                        · have hq := hq.trans (if_pos h4_11)
                          have hok := ok_pos h4_11 hok
                          refine lv_tableIn (off := 186) (tgt := 190) hx hb d_N_execute_4 (by rw [h4_11]; decide) (by rw [h4_11]; decide) (by rw [h4_11]; rfl) rfl ?_
                          refine lv_aload_n hx hb d_N_execute_190 rfl (lv_at hl 0 rfl) ?_
                          refine lv_iload_n hx hb d_N_execute_191 rfl (lv_at hl 1 rfl) ?_
                          obtain ⟨g3, hok⟩ := hok
                          refine callVI X S hl (c_N_stackOrSwitch v1 _ g3) v_N_240 0 0 ⟨rfl, rfl⟩ (rk_dec (by decide)) rfl rfl (Nat.le_of_ble_eq_true rfl) d_N_execute_192 (fun r1 σ1 H locs e1 S => ?_)
                          have hq := hq.trans (ap2_eq e1)
                          have hok := ok_ap2 e1 hok
                          exact ret _ _ _ _ _ _ S hq d_N_execute_195
                        · have hq := hq.trans (if_neg h4_11)
                          have hok := ok_neg h4_11 hok
                          by_cases h4_12 : (v1 >>> ((12 : Int32) &&& 31)) = (12 : Int32)
                          · have hq := hq.trans (if_pos h4_12)
                            have hok := ok_pos h4_12 hok
                            refine lv_tableIn (off := 221) (tgt := 225) hx hb d_N_execute_4 (by rw [h4_12]; decide) (by rw [h4_12]; decide) (by rw [h4_12]; rfl) rfl ?_
                            refine lv_bipush (v := 6) hx hb d_N_execute_225 (by decide) ?_
                            exact ret _ _ _ _ _ _ S hq d_N_execute_227
                          · have hq := hq.trans (if_neg h4_12)
                            have hok := ok_neg h4_12 hok
                            by_cases h4_13 : (v1 >>> ((12 : Int32) &&& 31)) = (13 : Int32)
                            · have hq := hq.trans (if_pos h4_13)
                              have hok := ok_pos h4_13 hok
                              refine lv_tableIn (off := 192) (tgt := 196) hx hb d_N_execute_4 (by rw [h4_13]; decide) (by rw [h4_13]; decide) (by rw [h4_13]; rfl) rfl ?_
                              refine lv_iload_n hx hb d_N_execute_196 rfl (lv_at hl 1 rfl) ?_
                              refine lv_bipush (v := 8) hx hb d_N_execute_197 (by decide) ?_
                              refine lv_ishr hx hb d_N_execute_199 ?_
                              refine lv_sipush (v := 223) hx hb d_N_execute_200 (by decide) ?_
                              refine lv_icmp_ne (tgt := 213) hx hb d_N_execute_203 rfl (fun h203 => ?_) (fun h203 => ?_)
                              · have hq := hq.trans (if_neg h203)
                                have hok := ok_neg h203 hok
                                refine lv_aload_n hx hb d_N_execute_213 rfl (lv_at hl 0 rfl) ?_
                                refine lv_iload_n hx hb d_N_execute_214 rfl (lv_at hl 1 rfl) ?_
                                refine callVI X S hl (c_N_branchIf v1 _) v_N_246 0 0 ⟨rfl, rfl⟩ (rk_dec (by decide)) rfl rfl (Nat.le_of_ble_eq_true rfl) d_N_execute_215 (fun r1 σ1 H locs e1 S => ?_)
                                have hq := hq.trans (ap2_eq e1)
                                have hok := ok_ap2 e1 hok
                                exact ret _ _ _ _ _ _ S hq d_N_execute_218
                              · have hq := hq.trans (if_pos h203)
                                have hok := ok_pos h203 hok
                                refine lv_aload_n hx hb d_N_execute_206 rfl (lv_at hl 0 rfl) ?_
                                refine callVI X S hl (c_N_callOut _) v_N_243 0 0 ⟨rfl, rfl⟩ (rk_dec (by decide)) rfl rfl (Nat.le_of_ble_eq_true rfl) d_N_execute_207 (fun r1 σ1 H locs e1 S => ?_)
                                have hq := hq.trans (ap2_eq e1)
                                have hok := ok_ap2 e1 hok
                                refine lv_goto (tgt := 218) hx hb d_N_execute_210 rfl ?_
                                exact ret _ _ _ _ _ _ S hq d_N_execute_218
                            · have hq := hq.trans (if_neg h4_13)
                              have hok := ok_neg h4_13 hok
                              by_cases h4_14 : (v1 >>> ((12 : Int32) &&& 31)) = (14 : Int32)
                              · have hq := hq.trans (if_pos h4_14)
                                have hok := ok_pos h4_14 hok
                                refine lv_tableIn (off := 215) (tgt := 219) hx hb d_N_execute_4 (by rw [h4_14]; decide) (by rw [h4_14]; decide) (by rw [h4_14]; rfl) rfl ?_
                                refine lv_aload_n hx hb d_N_execute_219 rfl (lv_at hl 0 rfl) ?_
                                refine lv_iload_n hx hb d_N_execute_220 rfl (lv_at hl 1 rfl) ?_
                                refine callVI X S hl (c_N_branch v1 _) v_N_249 0 0 ⟨rfl, rfl⟩ (rk_dec (by decide)) rfl rfl (Nat.le_of_ble_eq_true rfl) d_N_execute_221 (fun r1 σ1 H locs e1 S => ?_)
                                have hq := hq.trans (ap2_eq e1)
                                have hok := ok_ap2 e1 hok
                                exact ret _ _ _ _ _ _ S hq d_N_execute_224
                              · have hq := hq.trans (if_neg h4_14)
                                have hok := ok_neg h4_14 hok
                                have h4_0T := lv_neT (a := 0) h4_0 (by decide)
                                have h4_1T := lv_neT (a := 1) h4_1 (by decide)
                                have h4_2T := lv_neT (a := 2) h4_2 (by decide)
                                have h4_3T := lv_neT (a := 3) h4_3 (by decide)
                                have h4_4T := lv_neT (a := 4) h4_4 (by decide)
                                have h4_5T := lv_neT (a := 5) h4_5 (by decide)
                                have h4_6T := lv_neT (a := 6) h4_6 (by decide)
                                have h4_7T := lv_neT (a := 7) h4_7 (by decide)
                                have h4_8T := lv_neT (a := 8) h4_8 (by decide)
                                have h4_9T := lv_neT (a := 9) h4_9 (by decide)
                                have h4_10T := lv_neT (a := 10) h4_10 (by decide)
                                have h4_11T := lv_neT (a := 11) h4_11 (by decide)
                                have h4_12T := lv_neT (a := 12) h4_12 (by decide)
                                have h4_13T := lv_neT (a := 13) h4_13 (by decide)
                                have h4_14T := lv_neT (a := 14) h4_14 (by decide)
                                refine lv_tableOut (tgt := 225) hx hb d_N_execute_4 (by omega) rfl ?_
                                refine lv_bipush (v := 6) hx hb d_N_execute_225 (by decide) ?_
                                exact ret _ _ _ _ _ _ S hq d_N_execute_227
end CT
