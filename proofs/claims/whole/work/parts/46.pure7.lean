-- what an instruction of its own does
def b01 (x : Int32) : Prop := x = 0 ∨ x = 1
def M3 (th : Int32) (F : Int32 × nS) : Int32 × nS := (F.1, if F.1 = 0 then Rf th F.2 else Pf th F.2)
theorem sub2_2 (x : Int32) : x - 2 + 2 = x := by
  rw [Int32.sub_eq_add_neg, Int32.add_assoc]
  show x + 0 = x
  exact Int32.add_zero x
theorem up2_id {σ : nS} {k j : Nat} {v : Int32} (h : σ k j = v) : up2 σ k j v = σ := by
  funext x y
  rw [up2_at]
  by_cases a : x = k ∧ y = j
  · rw [if_pos a, a.1, a.2, h]
  · rw [if_neg a]
theorem Pf_to (th : Int32) (σ : nS) (v : Int32) : up2 (Pf th σ) 0 15 v = Rf th (up2 σ 0 15 v) := by
  unfold Pf
  rw [up2_same, Rf_upk th σ 0 15 v (by decide) (by decide)]
theorem Pf_next (th : Int32) (σ : nS) : up2 (Pf th σ) 0 15 (Pf th σ 0 15 + 2) = Rf th σ := by
  rw [Pf_pc, sub2_2, Pf_to, up2_id rfl]
theorem sub2_4y (x y : Int32) : x - 2 + (4 + y) = x + (2 + y) := by
  rw [← Int32.add_assoc, sub2_4, Int32.add_assoc]
theorem ne_lit {n m : Nat} (h : n ≠ m) (hn : n < 2 ^ 31) (hm : m < 2 ^ 31) : ¬ nI n = nI m := fun q => h ((nI_eq hn hm).mp q)
theorem w_sh {n : Nat} (hn : n < 65536) (c : Int32) (k : Nat) (hs : ((c &&& 31).toBitVec.smod 32).toNat = k) : nI n >>> (c &&& 31) = nI (n / 2 ^ k) := pk_shrN (by omega) _ k hs
theorem lk_70 (σ : nS) (h : ¬ σ 8 3 = 0) (v : Int32) : s_Ex_level_70 v σ ≤ -1 := by
  unfold s_Ex_level_70
  rw [if_neg h]
  by_cases a : (-1 : Int32) < v
  · rw [if_pos a]; decide
  · rw [if_neg a]; exact Int32.not_lt.mp a
theorem lk_57 (σ : nS) (h : ¬ σ 8 3 = 0) (v : Int32) : s_Ex_level_57 v σ ≤ -1 := by
  unfold s_Ex_level_57
  by_cases a : σ 8 2 = 0
  · rw [if_pos a]; exact lk_70 σ h _
  · rw [if_neg a]; exact lk_70 σ h _
theorem lk_16 (σ : nS) (h : ¬ σ 8 3 = 0) (v : Int32) : s_Ex_level_5_16 v σ ≤ -1 := by
  unfold s_Ex_level_5_16
  by_cases a : σ 8 1 = 0
  · rw [if_pos a]; exact lk_57 σ h _
  · rw [if_neg a]; exact lk_57 σ h _
theorem lk_15 (σ : nS) (h : ¬ σ 8 3 = 0) (v : Int32) : s_Ex_level_5_15 v σ ≤ -1 := by
  unfold s_Ex_level_5_15 s_Ex_level_30_15
  by_cases a : σ 3 15 = 0
  · rw [if_pos a]; exact lk_16 σ h _
  · rw [if_neg a]; exact lk_16 σ h _
theorem lk_14 (σ : nS) (h : ¬ σ 8 3 = 0) (v : Int32) : s_Ex_level_5_14 v σ ≤ -1 := by
  unfold s_Ex_level_5_14 s_Ex_level_30_14
  by_cases a : σ 3 14 = 0
  · rw [if_pos a]; exact lk_15 σ h _
  · rw [if_neg a]; exact lk_15 σ h _
theorem lk_13 (σ : nS) (h : ¬ σ 8 3 = 0) (v : Int32) : s_Ex_level_5_13 v σ ≤ -1 := by
  unfold s_Ex_level_5_13 s_Ex_level_30_13
  by_cases a : σ 3 13 = 0
  · rw [if_pos a]; exact lk_14 σ h _
  · rw [if_neg a]; exact lk_14 σ h _
theorem lk_12 (σ : nS) (h : ¬ σ 8 3 = 0) (v : Int32) : s_Ex_level_5_12 v σ ≤ -1 := by
  unfold s_Ex_level_5_12 s_Ex_level_30_12
  by_cases a : σ 3 12 = 0
  · rw [if_pos a]; exact lk_13 σ h _
  · rw [if_neg a]; exact lk_13 σ h _
theorem lk_11 (σ : nS) (h : ¬ σ 8 3 = 0) (v : Int32) : s_Ex_level_5_11 v σ ≤ -1 := by
  unfold s_Ex_level_5_11 s_Ex_level_30_11
  by_cases a : σ 3 11 = 0
  · rw [if_pos a]; exact lk_12 σ h _
  · rw [if_neg a]; exact lk_12 σ h _
theorem lk_10 (σ : nS) (h : ¬ σ 8 3 = 0) (v : Int32) : s_Ex_level_5_10 v σ ≤ -1 := by
  unfold s_Ex_level_5_10 s_Ex_level_30_10
  by_cases a : σ 3 10 = 0
  · rw [if_pos a]; exact lk_11 σ h _
  · rw [if_neg a]; exact lk_11 σ h _
theorem lk_9 (σ : nS) (h : ¬ σ 8 3 = 0) (v : Int32) : s_Ex_level_5_9 v σ ≤ -1 := by
  unfold s_Ex_level_5_9 s_Ex_level_30_9
  by_cases a : σ 3 9 = 0
  · rw [if_pos a]; exact lk_10 σ h _
  · rw [if_neg a]; exact lk_10 σ h _
theorem lk_8 (σ : nS) (h : ¬ σ 8 3 = 0) (v : Int32) : s_Ex_level_5_8 v σ ≤ -1 := by
  unfold s_Ex_level_5_8 s_Ex_level_30_8
  by_cases a : σ 3 8 = 0
  · rw [if_pos a]; exact lk_9 σ h _
  · rw [if_neg a]; exact lk_9 σ h _
theorem lk_7 (σ : nS) (h : ¬ σ 8 3 = 0) (v : Int32) : s_Ex_level_5_7 v σ ≤ -1 := by
  unfold s_Ex_level_5_7 s_Ex_level_30_7
  by_cases a : σ 3 7 = 0
  · rw [if_pos a]; exact lk_8 σ h _
  · rw [if_neg a]; exact lk_8 σ h _
theorem lk_6 (σ : nS) (h : ¬ σ 8 3 = 0) (v : Int32) : s_Ex_level_5_6 v σ ≤ -1 := by
  unfold s_Ex_level_5_6 s_Ex_level_30_6
  by_cases a : σ 3 6 = 0
  · rw [if_pos a]; exact lk_7 σ h _
  · rw [if_neg a]; exact lk_7 σ h _
theorem lk_5 (σ : nS) (h : ¬ σ 8 3 = 0) (v : Int32) : s_Ex_level_5_5 v σ ≤ -1 := by
  unfold s_Ex_level_5_5 s_Ex_level_30_5
  by_cases a : σ 3 5 = 0
  · rw [if_pos a]; exact lk_6 σ h _
  · rw [if_neg a]; exact lk_6 σ h _
theorem lk_4 (σ : nS) (h : ¬ σ 8 3 = 0) (v : Int32) : s_Ex_level_5_4 v σ ≤ -1 := by
  unfold s_Ex_level_5_4 s_Ex_level_30_4
  by_cases a : σ 3 4 = 0
  · rw [if_pos a]; exact lk_5 σ h _
  · rw [if_neg a]; exact lk_5 σ h _
theorem lk_3 (σ : nS) (h : ¬ σ 8 3 = 0) (v : Int32) : s_Ex_level_5_3 v σ ≤ -1 := by
  unfold s_Ex_level_5_3 s_Ex_level_30_3
  by_cases a : σ 3 3 = 0
  · rw [if_pos a]; exact lk_4 σ h _
  · rw [if_neg a]; exact lk_4 σ h _
theorem lk_2 (σ : nS) (h : ¬ σ 8 3 = 0) : s_Ex_level_5_2 σ ≤ -1 := by
  unfold s_Ex_level_5_2 s_Ex_level_30_2
  by_cases a : σ 3 2 = 0
  · rw [if_pos a]; exact lk_3 σ h _
  · rw [if_neg a]; exact lk_3 σ h _
theorem lk_level (σ : nS) (h : ¬ σ 8 3 = 0) : s_Ex_level σ ≤ -1 := lk_2 σ h
theorem q_level (th : Int32) (σ : nS) (hf : 0 ≤ σ 8 1) : s_Mo_level (Pf th σ) = s_Ex_level σ := level_eq ((Pf_gd th).1 σ) hf
theorem q_due (th : Int32) (σ : nS) (hf : 0 ≤ σ 8 1) : s_Mo_due (Pf th σ) = s_Ex_due σ := due_eq ((Pf_gd th).1 σ) hf
theorem q_call (th : Int32) (σ : nS) (hf : 0 ≤ σ 8 1) : (if (s_Mo_group ((Pf th σ) 4 7) (Pf th σ)) < (s_Mo_level (Pf th σ)) then ((0 : Int32), (up2 (up2 (Pf th σ) 2 7 (bI true)) 0 15 (((up2 (Pf th σ) 2 7 (bI true)) 0 15) + 2))) else ((6, (Pf th σ)))) = M3 th (s_N_callOut σ) := by
  unfold s_N_callOut
  rw [q_level th σ hf, show s_Mo_group (Pf th σ 4 7) (Pf th σ) = s_Ex_group 7 σ from gr_eq ((Pf_gd th).1 σ) 7]
  by_cases h : s_Ex_group 7 σ < s_Ex_level σ
  · rw [if_pos h, if_pos h, ← (Pf_gd th).2.2.1 σ 2 7 _ (by decide) (by decide) (by decide), Pf_next]
    rfl
  · rw [if_neg h, if_neg h]
    rfl
theorem q_meet (th : Int32) (σ : nS) (h4 : b01 (σ 8 4)) (h5 : b01 (σ 8 5)) (h6 : b01 (σ 8 6)) (h7 : b01 (σ 8 7)) (c : Nat) (hc : c < 14) : s_Mo_holds (nI c) (Pf th σ) = s_Fl_meet (nI c) σ := by
  have G := Pf_gd th
  unfold s_Mo_holds s_Fl_meet s_Mo_holds_53 s_Mo_holds_76 s_Mo_holds_99 s_Mo_holds_123 s_Mo_holds_150 s_Mo_holds_187 s_Mo_holds_229 s_Mo_holds_151 s_Mo_holds_230 s_Mo_holds_162 s_Mo_holds_198 s_Mo_holds_241 s_Fl_meet_11 s_Fl_meet_126 s_Fl_meet_185 s_Fl_meet_127 s_Fl_meet_153 s_Fl_meet_186
  rw [gd8 G σ (j := 4) (by decide), gd8 G σ (j := 5) (by decide), gd8 G σ (j := 6) (by decide), gd8 G σ (j := 7) (by decide)]
  generalize σ 8 4 = a at *
  generalize σ 8 5 = b at *
  generalize σ 8 6 = d at *
  generalize σ 8 7 = e at *
  clear G
  revert c
  rcases h4 with rfl | rfl <;> rcases h5 with rfl | rfl <;> rcases h6 with rfl | rfl <;> rcases h7 with rfl | rfl <;> decide +kernel
theorem by_cond : ∀ a : Nat, a < 16 → ∀ b : Nat, b < 256 → (nI (4096 * 13 + 256 * a + b)).toInt8.toInt32 = (if (nI (4096 * 13 + 256 * a + b) &&& 255) ≤ 127 then (nI (4096 * 13 + 256 * a + b) &&& 255) else ((nI (4096 * 13 + 256 * a + b) &&& 255) - 256)) := by decide +kernel
theorem by_br : ∀ a : Nat, a < 16 → ∀ b : Nat, b < 128 → ((nI (2048 * 28 + 128 * a + b)) <<< ((21 : Int32) &&& 31)) >>> ((21 : Int32) &&& 31) = (if (nI (2048 * 28 + 128 * a + b) &&& 2047) ≤ 1023 then (nI (2048 * 28 + 128 * a + b) &&& 2047) else ((nI (2048 * 28 + 128 * a + b) &&& 2047) - 2048)) := by decide +kernel
theorem q_cond (th : Int32) (n : Nat) (hn : n < 65536) (hm : n / 4096 = 13) (σ : nS) (hf : 0 ≤ σ 8 1) (h4 : b01 (σ 8 4)) (h5 : b01 (σ 8 5)) (h6 : b01 (σ 8 6)) (h7 : b01 (σ 8 7)) : s_Mo_conditional (nI n) (Pf th σ) = M3 th (s_N_execute (nI n) σ) := by
  have id : ∀ F : Int32 × nS, ap2 F (fun r1 σ1 => (r1, σ1)) = F := fun _ => rfl
  have e12 : nI n >>> ((12 : Int32) &&& 31) = 13 := by rw [w_sh hn 12 12 (by decide), show n / 2 ^ 12 = 13 by omega]; rfl
  have e8 : nI n >>> ((8 : Int32) &&& 31) = nI (n / 256) := by rw [w_sh hn 8 8 (by decide)]
  have ea : nI (n / 256) &&& 15 = nI (n / 256 % 16) := by rw [pk_andN (by omega) 4 (by decide)]
  have by1 : (nI n).toInt8.toInt32 = (if (nI n &&& 255) ≤ 127 then (nI n &&& 255) else ((nI n &&& 255) - 256)) := by
    have := by_cond (n / 256 % 16) (by omega) (n % 256) (by omega)
    rw [show 4096 * 13 + 256 * (n / 256 % 16) + n % 256 = n by omega] at this
    exact this
  unfold s_Mo_conditional s_N_execute s_N_branchIf s_Mo_conditional_86 s_Mo_conditional_112 s_N_branchIf_44
  rw [e12]
  simp (decide := true) only [↓reduceIte]
  rw [e8, ea, by1, id, id]
  have cl : n / 256 % 16 = 14 ∨ n / 256 % 16 = 15 ∨ n / 256 % 16 < 14 := by omega
  rcases cl with c | c | c
  · rw [c, show n / 256 = 222 by omega]
    simp (decide := true) only [↓reduceIte]
    rfl
  · rw [c, show n / 256 = 223 by omega]
    simp (decide := true) only [↓reduceIte]
    exact q_call th σ hf
  · rw [if_neg (show ¬ nI (n / 256 % 16) = 14 from ne_lit (m := 14) (by omega) (by omega) (by decide)), if_neg (show ¬ nI (n / 256 % 16) = 15 from ne_lit (m := 15) (by omega) (by omega) (by decide)), if_neg (show ¬ nI (n / 256) = 223 from ne_lit (m := 223) (by omega) (by omega) (by decide)), if_pos (show nI (n / 256 % 16) ≤ 13 from nI_le (b := 13) (by omega) (by decide)), q_meet th σ h4 h5 h6 h7 _ c, Pf_pc]
    generalize nI n &&& 255 = x
    have fin : ∀ y : Int32, (if s_Fl_meet (nI (n / 256 % 16)) σ = true then ((0 : Int32), up2 (Pf th σ) 0 15 (σ 0 15 - 2 + (4 + 2 * y))) else (0, up2 (Pf th σ) 0 15 (σ 0 15 - 2 + 2))) = M3 th (if s_Fl_meet (nI (n / 256 % 16)) σ = true then (0, up2 σ 0 15 (σ 0 15 + (2 + 2 * y))) else (0, σ)) := by
      intro y
      by_cases h : s_Fl_meet (nI (n / 256 % 16)) σ = true
      · rw [if_pos h, if_pos h, sub2_4y, Pf_to]
        rfl
      · rw [if_neg h, if_neg h, sub2_2, Pf_to, up2_id rfl]
        rfl
    by_cases h : x ≤ 127
    · rw [if_pos h, if_pos h]; exact fin _
    · rw [if_neg h, if_neg h]; exact fin _
theorem q_branch (th : Int32) (n : Nat) (hn : n < 65536) (hm : n / 2048 = 28) (σ : nS) : (if (nI n &&& 2047) ≤ 1023 then (s_Mo_does_116 ((Pf th σ) 0 15) (nI n &&& 2047) (Pf th σ)) else (s_Mo_does_116 ((Pf th σ) 0 15) ((nI n &&& 2047) - 2048) (Pf th σ))) = M3 th (s_N_execute (nI n) σ) := by
  have id : ∀ F : Int32 × nS, ap2 F (fun r1 σ1 => (r1, σ1)) = F := fun _ => rfl
  have e12 : nI n >>> ((12 : Int32) &&& 31) = 14 := by rw [w_sh hn 12 12 (by decide), show n / 2 ^ 12 = 14 by omega]; rfl
  have e11 : nI n >>> ((11 : Int32) &&& 31) = 28 := by rw [w_sh hn 11 11 (by decide), show n / 2 ^ 11 = 28 by omega]; rfl
  have by1 : (nI n <<< ((21 : Int32) &&& 31)) >>> ((21 : Int32) &&& 31) = (if (nI n &&& 2047) ≤ 1023 then (nI n &&& 2047) else ((nI n &&& 2047) - 2048)) := by
    have := by_br (n / 128 % 16) (by omega) (n % 128) (by omega)
    rw [show 2048 * 28 + 128 * (n / 128 % 16) + n % 128 = n by omega] at this
    exact this
  unfold s_N_execute s_N_branch s_Mo_does_116
  rw [e12]
  simp (decide := true) only [↓reduceIte]
  rw [e11]
  simp (decide := true) only [↓reduceIte]
  rw [by1, id, Pf_pc]
  generalize nI n &&& 2047 = x
  by_cases h : x ≤ 1023
  · rw [if_pos h, if_pos h, sub2_4y, Pf_to]
    rfl
  · rw [if_neg h, if_neg h, sub2_4y, Pf_to]
    rfl
theorem neg4 (x : Int32) : -(4 * x) = (-4) * x := by
  rw [← Int32.neg_mul]
theorem q_switch (th : Int32) (v : Int32) (σ : nS) (hf : 0 ≤ σ 8 1) (hb : b01 (σ 8 3)) (F : Int32 × nS) (hF : F = (6, Pf th σ)) : (if v = 46690 then (s_Mo_special_12 v (Pf th σ)) else (if v = 46706 then (s_Mo_special_12 v (Pf th σ)) else (if v = 46689 then (s_Mo_special_152 (up2 (Pf th σ) 8 3 (bI false))) else (if v = 46705 then (if ((Pf th σ) 8 3) = 0 then (if (s_Mo_level (Pf th σ)) ≤ (-1) then (s_Mo_special_71 false (Pf th σ)) else (s_Mo_special_66 (Pf th σ))) else (s_Mo_special_66 (Pf th σ))) else (if v = 48896 then (s_Mo_special_152 (Pf th σ)) else F))))) = M2 (Pf th) (s_N_switchOrNothing v σ) := by
  have G := Pf_gd th
  unfold s_Mo_special_12 s_Mo_special_66 s_Mo_special_71 s_Mo_special_24 s_Mo_special_152 s_N_switchOrNothing s_N_switchOrNothing_103
  rw [q_level th σ hf, gd8 G σ (j := 3) (by decide), hF]
  by_cases h1 : v = 46690
  · subst h1
    simp (decide := true) only [↓reduceIte]
    unfold M2
    simp only []
    rw [G.u8 _ _ _ (by decide)]
  by_cases h2 : v = 46706
  · subst h2
    simp (decide := true) only [↓reduceIte]
    unfold M2
    simp only []
    rw [G.u8 _ _ _ (by decide)]
  by_cases h3 : v = 46689
  · subst h3
    simp (decide := true) only [↓reduceIte]
    unfold M2
    simp only []
    rw [G.u8 _ _ _ (by decide)]
  by_cases h4 : v = 46705
  · subst h4
    simp (decide := true) only [↓reduceIte]
    by_cases f : σ 8 3 = 0
    · rw [if_pos f]
      by_cases g : s_Ex_level σ ≤ -1
      · rw [if_pos g, if_pos g, ← G.u8 _ _ _ (by decide), up2_id (show σ 8 3 = bI false from f)]
        rfl
      · rw [if_neg g, if_neg g, ← G.u8 _ _ _ (by decide)]
        rfl
    · rw [if_neg f, if_pos (lk_level σ f), ← G.u8 _ _ _ (by decide), up2_id (show σ 8 3 = bI true from hb.elim (fun q => absurd q f) (fun q => q))]
      rfl
  simp only [h1, h2, h3, h4, if_false]
  by_cases h5 : v = 48896
  · rw [if_pos h5, if_pos h5]; rfl
  · rw [if_neg h5, if_neg h5]; rfl
theorem q_special (th : Int32) (n : Nat) (hn : n < 65536) (hm : n / 4096 = 11) (hp : n / 512 ≠ 94) (σ : nS) (hf : 0 ≤ σ 8 1) (hb : b01 (σ 8 3)) : s_Mo_special (nI n) (Pf th σ) = M2 (Pf th) (s_N_stackOrSwitch (nI n) σ) := by
  have id : ∀ F : Int32 × nS, ap2 F (fun r1 σ1 => (r1, σ1)) = F := fun _ => rfl
  have e8 : nI n >>> ((8 : Int32) &&& 31) = nI (n / 256) := by rw [w_sh hn 8 8 (by decide)]
  have e9 : nI n >>> ((9 : Int32) &&& 31) = nI (n / 512) := by rw [w_sh hn 9 9 (by decide)]
  have sw := q_switch th (nI n) σ hf hb _ rfl
  have h13 : (13 : Nat) ≠ 15 := by decide
  have cl : n / 256 = 176 ∨ n / 256 = 180 ∨ n / 256 = 181 ∨ n / 256 = 177 ∨ n / 256 = 178 ∨ n / 256 = 179 ∨ n / 256 = 182 ∨ n / 256 = 183 ∨ n / 256 = 184 ∨ n / 256 = 185 ∨ n / 256 = 186 ∨ n / 256 = 187 ∨ n / 256 = 190 ∨ n / 256 = 191 := by omega
  have no : (n / 256 = 176 ∨ n / 256 = 180 ∨ n / 256 = 181) → ¬ nI n = 46690 ∧ ¬ nI n = 46706 ∧ ¬ nI n = 46689 ∧ ¬ nI n = 46705 := fun q => ⟨ne_lit (m := 46690) (by omega) (by omega) (by decide), ne_lit (m := 46706) (by omega) (by omega) (by decide), ne_lit (m := 46689) (by omega) (by omega) (by decide), ne_lit (m := 46705) (by omega) (by omega) (by decide)⟩
  unfold s_Mo_special s_N_stackOrSwitch s_Mo_special_119 s_N_stackOrSwitch_105
  rw [e8, e9]
  rcases cl with c | c | c | cl
  · obtain ⟨n1, n2, n3, n4⟩ := no (by omega)
    rw [if_neg n1, if_neg n2, if_neg n3, if_neg n4, c]
    simp (decide := true) only [↓reduceIte]
    rw [Pf_r th σ h13, neg4]
    unfold s_Mo_special_152 M2
    by_cases h : nI n &&& 128 = 0
    · rw [if_pos h, if_pos h, Pf_u0 th _ _ h13]
    · rw [if_neg h, if_neg h, Pf_u0 th _ _ h13]
  · obtain ⟨n1, n2, n3, n4⟩ := no (by omega)
    rw [if_neg n1, if_neg n2, if_neg n3, if_neg n4, c, show n / 512 = 90 by omega]
    simp (decide := true) only [↓reduceIte]
    exact q_push th (nI n) σ
  · obtain ⟨n1, n2, n3, n4⟩ := no (by omega)
    rw [if_neg n1, if_neg n2, if_neg n3, if_neg n4, c, show n / 512 = 90 by omega]
    simp (decide := true) only [↓reduceIte]
    exact q_push th (nI n) σ
  · have t1 : ¬ nI (n / 256) = 176 := ne_lit (m := 176) (by omega) (by omega) (by decide)
    have t2 : ¬ nI (n / 512) = 90 := ne_lit (m := 90) (by omega) (by omega) (by decide)
    rw [if_neg t1, if_neg t2, sw]
    rcases cl with c | c | c | c | c | c | c | c | c | c | c <;> (rw [c]; simp (decide := true) only [↓reduceIte]; rfl)
theorem bx_all : ∀ b : Nat, b < 256 → (nI (256 * 71 + b)) &&& 135 = 0 → (nI (256 * 71 + b)) &&& 65415 = 18176 := by decide +kernel
theorem bx_ok (n : Nat) (hn : n / 256 = 71) (h : (nI n) &&& 135 = 0) : (nI n) &&& 65415 = 18176 := by
  have e : 256 * 71 + n % 256 = n := by omega
  have := bx_all (n % 256) (by omega)
  rw [e] at this
  exact this h
theorem pl_0 (th : Int32) (n : Nat) (hn : n < 65536) (hm : n / 2048 = 0) (σ : nS) : s_Mo_plain (nI n) (Pf th σ) = M2 (Pf th) (s_N_execute (nI n) σ) := by
  have id : ∀ F : Int32 × nS, ap2 F (fun r1 σ1 => (r1, σ1)) = F := fun _ => rfl
  have e12 : nI n >>> ((12 : Int32) &&& 31) = 0 := by rw [w_sh hn 12 12 (by decide), show n / 2 ^ 12 = 0 by omega]; rfl
  have e11 : nI n >>> ((11 : Int32) &&& 31) = 0 := by rw [w_sh hn 11 11 (by decide), show n / 2 ^ 11 = 0 by omega]; rfl
  have e10 : nI n >>> ((10 : Int32) &&& 31) = nI (n / 1024) := by rw [w_sh hn 10 10 (by decide)]
  have e9 : nI n >>> ((9 : Int32) &&& 31) = nI (n / 512) := by rw [w_sh hn 9 9 (by decide)]
  have e8 : nI n >>> ((8 : Int32) &&& 31) = nI (n / 256) := by rw [w_sh hn 8 8 (by decide)]
  unfold s_Mo_plain s_N_execute
  rw [e12, e11]
  simp (decide := true) only [↓reduceIte]
  exact q_shift th (nI n) σ
theorem pl_1 (th : Int32) (n : Nat) (hn : n < 65536) (hm : n / 2048 = 1) (σ : nS) : s_Mo_plain (nI n) (Pf th σ) = M2 (Pf th) (s_N_execute (nI n) σ) := by
  have id : ∀ F : Int32 × nS, ap2 F (fun r1 σ1 => (r1, σ1)) = F := fun _ => rfl
  have e12 : nI n >>> ((12 : Int32) &&& 31) = 0 := by rw [w_sh hn 12 12 (by decide), show n / 2 ^ 12 = 0 by omega]; rfl
  have e11 : nI n >>> ((11 : Int32) &&& 31) = 1 := by rw [w_sh hn 11 11 (by decide), show n / 2 ^ 11 = 1 by omega]; rfl
  have e10 : nI n >>> ((10 : Int32) &&& 31) = nI (n / 1024) := by rw [w_sh hn 10 10 (by decide)]
  have e9 : nI n >>> ((9 : Int32) &&& 31) = nI (n / 512) := by rw [w_sh hn 9 9 (by decide)]
  have e8 : nI n >>> ((8 : Int32) &&& 31) = nI (n / 256) := by rw [w_sh hn 8 8 (by decide)]
  unfold s_Mo_plain s_N_execute
  rw [e12, e11]
  simp (decide := true) only [↓reduceIte]
  exact q_shift th (nI n) σ
theorem pl_2 (th : Int32) (n : Nat) (hn : n < 65536) (hm : n / 2048 = 2) (σ : nS) : s_Mo_plain (nI n) (Pf th σ) = M2 (Pf th) (s_N_execute (nI n) σ) := by
  have id : ∀ F : Int32 × nS, ap2 F (fun r1 σ1 => (r1, σ1)) = F := fun _ => rfl
  have e12 : nI n >>> ((12 : Int32) &&& 31) = 1 := by rw [w_sh hn 12 12 (by decide), show n / 2 ^ 12 = 1 by omega]; rfl
  have e11 : nI n >>> ((11 : Int32) &&& 31) = 2 := by rw [w_sh hn 11 11 (by decide), show n / 2 ^ 11 = 2 by omega]; rfl
  have e10 : nI n >>> ((10 : Int32) &&& 31) = nI (n / 1024) := by rw [w_sh hn 10 10 (by decide)]
  have e9 : nI n >>> ((9 : Int32) &&& 31) = nI (n / 512) := by rw [w_sh hn 9 9 (by decide)]
  have e8 : nI n >>> ((8 : Int32) &&& 31) = nI (n / 256) := by rw [w_sh hn 8 8 (by decide)]
  unfold s_Mo_plain s_N_execute
  rw [e12, e11]
  simp (decide := true) only [↓reduceIte]
  exact q_shift th (nI n) σ
theorem pl_3 (th : Int32) (n : Nat) (hn : n < 65536) (hm : n / 2048 = 3) (σ : nS) : s_Mo_plain (nI n) (Pf th σ) = M2 (Pf th) (s_N_execute (nI n) σ) := by
  have id : ∀ F : Int32 × nS, ap2 F (fun r1 σ1 => (r1, σ1)) = F := fun _ => rfl
  have e12 : nI n >>> ((12 : Int32) &&& 31) = 1 := by rw [w_sh hn 12 12 (by decide), show n / 2 ^ 12 = 1 by omega]; rfl
  have e11 : nI n >>> ((11 : Int32) &&& 31) = 3 := by rw [w_sh hn 11 11 (by decide), show n / 2 ^ 11 = 3 by omega]; rfl
  have e10 : nI n >>> ((10 : Int32) &&& 31) = nI (n / 1024) := by rw [w_sh hn 10 10 (by decide)]
  have e9 : nI n >>> ((9 : Int32) &&& 31) = nI (n / 512) := by rw [w_sh hn 9 9 (by decide)]
  have e8 : nI n >>> ((8 : Int32) &&& 31) = nI (n / 256) := by rw [w_sh hn 8 8 (by decide)]
  have G := Pf_gd th
  unfold s_Mo_plain s_N_execute s_Mo_plain_109 s_Mo_plain_89 s_N_addThree
  rw [e12, e11, e10, e9, e8]
  simp (decide := true) only [↓reduceIte]
  have cl : n / 512 = 12 ∨ n / 512 = 13 ∨ n / 512 = 14 ∨ n / 512 = 15 := by omega
  rcases cl with c | c | c | c
  · rw [c, show n / 1024 = 6 by omega]
    simp (decide := true) only [↓reduceIte]
    rw [Pf_r th σ (n7' _), Pf_r th σ (n7' _), q_sum G, ap2_M2]
    exact put_M2 th (n7' _) _
  · rw [c, show n / 1024 = 6 by omega]
    simp (decide := true) only [↓reduceIte]
    rw [Pf_r th σ (n7' _), Pf_r th σ (n7' _), q_diff G, ap2_M2]
    exact put_M2 th (n7' _) _
  · rw [c, show n / 1024 = 7 by omega, if_neg (show ¬ nI (n / 256) = 70 from ne_lit (m := 70) (by omega) (by omega) (by decide))]
    simp (decide := true) only [↓reduceIte]
    rfl
  · rw [c, show n / 1024 = 7 by omega, if_neg (show ¬ nI (n / 256) = 70 from ne_lit (m := 70) (by omega) (by omega) (by decide))]
    simp (decide := true) only [↓reduceIte]
    rfl
theorem pl_4 (th : Int32) (n : Nat) (hn : n < 65536) (hm : n / 2048 = 4) (σ : nS) : s_Mo_plain (nI n) (Pf th σ) = M2 (Pf th) (s_N_execute (nI n) σ) := by
  have id : ∀ F : Int32 × nS, ap2 F (fun r1 σ1 => (r1, σ1)) = F := fun _ => rfl
  have e12 : nI n >>> ((12 : Int32) &&& 31) = 2 := by rw [w_sh hn 12 12 (by decide), show n / 2 ^ 12 = 2 by omega]; rfl
  have e11 : nI n >>> ((11 : Int32) &&& 31) = 4 := by rw [w_sh hn 11 11 (by decide), show n / 2 ^ 11 = 4 by omega]; rfl
  have e10 : nI n >>> ((10 : Int32) &&& 31) = nI (n / 1024) := by rw [w_sh hn 10 10 (by decide)]
  have e9 : nI n >>> ((9 : Int32) &&& 31) = nI (n / 512) := by rw [w_sh hn 9 9 (by decide)]
  have e8 : nI n >>> ((8 : Int32) &&& 31) = nI (n / 256) := by rw [w_sh hn 8 8 (by decide)]
  unfold s_Mo_plain s_N_execute
  rw [e12, e11, e10]
  simp (decide := true) only [↓reduceIte]
  rw [if_neg (show ¬ nI (n / 1024) = 6 from ne_lit (m := 6) (by omega) (by omega) (by decide))]
  exact q_imm th (nI n) σ
theorem pl_5 (th : Int32) (n : Nat) (hn : n < 65536) (hm : n / 2048 = 5) (σ : nS) : s_Mo_plain (nI n) (Pf th σ) = M2 (Pf th) (s_N_execute (nI n) σ) := by
  have id : ∀ F : Int32 × nS, ap2 F (fun r1 σ1 => (r1, σ1)) = F := fun _ => rfl
  have e12 : nI n >>> ((12 : Int32) &&& 31) = 2 := by rw [w_sh hn 12 12 (by decide), show n / 2 ^ 12 = 2 by omega]; rfl
  have e11 : nI n >>> ((11 : Int32) &&& 31) = 5 := by rw [w_sh hn 11 11 (by decide), show n / 2 ^ 11 = 5 by omega]; rfl
  have e10 : nI n >>> ((10 : Int32) &&& 31) = nI (n / 1024) := by rw [w_sh hn 10 10 (by decide)]
  have e9 : nI n >>> ((9 : Int32) &&& 31) = nI (n / 512) := by rw [w_sh hn 9 9 (by decide)]
  have e8 : nI n >>> ((8 : Int32) &&& 31) = nI (n / 256) := by rw [w_sh hn 8 8 (by decide)]
  unfold s_Mo_plain s_N_execute
  rw [e12, e11, e10]
  simp (decide := true) only [↓reduceIte]
  rw [if_neg (show ¬ nI (n / 1024) = 6 from ne_lit (m := 6) (by omega) (by omega) (by decide))]
  exact q_imm th (nI n) σ
theorem pl_6 (th : Int32) (n : Nat) (hn : n < 65536) (hm : n / 2048 = 6) (σ : nS) : s_Mo_plain (nI n) (Pf th σ) = M2 (Pf th) (s_N_execute (nI n) σ) := by
  have id : ∀ F : Int32 × nS, ap2 F (fun r1 σ1 => (r1, σ1)) = F := fun _ => rfl
  have e12 : nI n >>> ((12 : Int32) &&& 31) = 3 := by rw [w_sh hn 12 12 (by decide), show n / 2 ^ 12 = 3 by omega]; rfl
  have e11 : nI n >>> ((11 : Int32) &&& 31) = 6 := by rw [w_sh hn 11 11 (by decide), show n / 2 ^ 11 = 6 by omega]; rfl
  have e10 : nI n >>> ((10 : Int32) &&& 31) = nI (n / 1024) := by rw [w_sh hn 10 10 (by decide)]
  have e9 : nI n >>> ((9 : Int32) &&& 31) = nI (n / 512) := by rw [w_sh hn 9 9 (by decide)]
  have e8 : nI n >>> ((8 : Int32) &&& 31) = nI (n / 256) := by rw [w_sh hn 8 8 (by decide)]
  unfold s_Mo_plain s_N_execute
  rw [e12, e11, e10]
  simp (decide := true) only [↓reduceIte]
  rw [if_neg (show ¬ nI (n / 1024) = 6 from ne_lit (m := 6) (by omega) (by omega) (by decide))]
  exact q_imm th (nI n) σ
theorem pl_7 (th : Int32) (n : Nat) (hn : n < 65536) (hm : n / 2048 = 7) (σ : nS) : s_Mo_plain (nI n) (Pf th σ) = M2 (Pf th) (s_N_execute (nI n) σ) := by
  have id : ∀ F : Int32 × nS, ap2 F (fun r1 σ1 => (r1, σ1)) = F := fun _ => rfl
  have e12 : nI n >>> ((12 : Int32) &&& 31) = 3 := by rw [w_sh hn 12 12 (by decide), show n / 2 ^ 12 = 3 by omega]; rfl
  have e11 : nI n >>> ((11 : Int32) &&& 31) = 7 := by rw [w_sh hn 11 11 (by decide), show n / 2 ^ 11 = 7 by omega]; rfl
  have e10 : nI n >>> ((10 : Int32) &&& 31) = nI (n / 1024) := by rw [w_sh hn 10 10 (by decide)]
  have e9 : nI n >>> ((9 : Int32) &&& 31) = nI (n / 512) := by rw [w_sh hn 9 9 (by decide)]
  have e8 : nI n >>> ((8 : Int32) &&& 31) = nI (n / 256) := by rw [w_sh hn 8 8 (by decide)]
  unfold s_Mo_plain s_N_execute
  rw [e12, e11, e10]
  simp (decide := true) only [↓reduceIte]
  rw [if_neg (show ¬ nI (n / 1024) = 6 from ne_lit (m := 6) (by omega) (by omega) (by decide))]
  exact q_imm th (nI n) σ
theorem pl_8 (th : Int32) (n : Nat) (hn : n < 65536) (hm : n / 2048 = 8) (σ : nS) (hx : ¬ ((nI n) &&& 65415) = 18176) : s_Mo_plain (nI n) (Pf th σ) = M2 (Pf th) (s_N_execute (nI n) σ) := by
  have id : ∀ F : Int32 × nS, ap2 F (fun r1 σ1 => (r1, σ1)) = F := fun _ => rfl
  have e12 : nI n >>> ((12 : Int32) &&& 31) = 4 := by rw [w_sh hn 12 12 (by decide), show n / 2 ^ 12 = 4 by omega]; rfl
  have e11 : nI n >>> ((11 : Int32) &&& 31) = 8 := by rw [w_sh hn 11 11 (by decide), show n / 2 ^ 11 = 8 by omega]; rfl
  have e10 : nI n >>> ((10 : Int32) &&& 31) = nI (n / 1024) := by rw [w_sh hn 10 10 (by decide)]
  have e9 : nI n >>> ((9 : Int32) &&& 31) = nI (n / 512) := by rw [w_sh hn 9 9 (by decide)]
  have e8 : nI n >>> ((8 : Int32) &&& 31) = nI (n / 256) := by rw [w_sh hn 8 8 (by decide)]
  unfold s_Mo_plain s_N_execute s_Mo_plain_109 s_N_copyOrBranch
  rw [e12, e11, e10, e8]
  simp (decide := true) only [↓reduceIte]
  rw [if_neg (show ¬ nI (n / 1024) = 6 from ne_lit (m := 6) (by omega) (by omega) (by decide))]
  have cl : n / 1024 = 16 ∨ n / 256 = 68 ∨ n / 256 = 69 ∨ n / 256 = 70 ∨ n / 256 = 71 := by omega
  rcases cl with c | c | c | c | c
  · rw [c]
    simp (decide := true) only [↓reduceIte]
    exact q_logic th (nI n) σ
  · rw [c, show n / 1024 = 17 by omega]
    simp (decide := true) only [↓reduceIte]
    rfl
  · rw [c, show n / 1024 = 17 by omega]
    simp (decide := true) only [↓reduceIte]
    rfl
  · rw [c, show n / 1024 = 17 by omega]
    simp (decide := true) only [↓reduceIte]
    exact q_copy th (nI n) σ
  · have hz : ¬ (nI n) &&& 135 = 0 := by
      intro q
      refine hx (bx_ok n ?_ q)
      omega
    rw [c, show n / 1024 = 17 by omega]
    simp (decide := true) only [↓reduceIte]
    unfold s_N_branchTo s_N_branchTo_21
    rw [if_neg hz]
    rfl
theorem pl_9 (th : Int32) (n : Nat) (hn : n < 65536) (hm : n / 2048 = 9) (σ : nS) : s_Mo_plain (nI n) (Pf th σ) = M2 (Pf th) (s_N_execute (nI n) σ) := by
  have id : ∀ F : Int32 × nS, ap2 F (fun r1 σ1 => (r1, σ1)) = F := fun _ => rfl
  have e12 : nI n >>> ((12 : Int32) &&& 31) = 4 := by rw [w_sh hn 12 12 (by decide), show n / 2 ^ 12 = 4 by omega]; rfl
  have e11 : nI n >>> ((11 : Int32) &&& 31) = 9 := by rw [w_sh hn 11 11 (by decide), show n / 2 ^ 11 = 9 by omega]; rfl
  have e10 : nI n >>> ((10 : Int32) &&& 31) = nI (n / 1024) := by rw [w_sh hn 10 10 (by decide)]
  have e9 : nI n >>> ((9 : Int32) &&& 31) = nI (n / 512) := by rw [w_sh hn 9 9 (by decide)]
  have e8 : nI n >>> ((8 : Int32) &&& 31) = nI (n / 256) := by rw [w_sh hn 8 8 (by decide)]
  unfold s_Mo_plain s_N_execute s_Mo_plain_109 s_N_copyOrBranch
  rw [e12, e11, e10, e8]
  simp (decide := true) only [↓reduceIte]
  rw [if_neg (show ¬ nI (n / 1024) = 6 from ne_lit (m := 6) (by omega) (by omega) (by decide)), if_neg (show ¬ nI (n / 1024) = 16 from ne_lit (m := 16) (by omega) (by omega) (by decide)), if_neg (show ¬ nI (n / 1024) = 16 from ne_lit (m := 16) (by omega) (by omega) (by decide)), if_neg (show ¬ nI (n / 256) = 70 from ne_lit (m := 70) (by omega) (by omega) (by decide)), if_neg (show ¬ nI (n / 256) = 70 from ne_lit (m := 70) (by omega) (by omega) (by decide)), if_neg (show ¬ nI (n / 256) = 71 from ne_lit (m := 71) (by omega) (by omega) (by decide))]
  rfl
theorem pl_10 (th : Int32) (n : Nat) (hn : n < 65536) (hm : n / 2048 = 10) (σ : nS) : s_Mo_plain (nI n) (Pf th σ) = M2 (Pf th) (s_N_execute (nI n) σ) := by
  have id : ∀ F : Int32 × nS, ap2 F (fun r1 σ1 => (r1, σ1)) = F := fun _ => rfl
  have e12 : nI n >>> ((12 : Int32) &&& 31) = 5 := by rw [w_sh hn 12 12 (by decide), show n / 2 ^ 12 = 5 by omega]; rfl
  have e11 : nI n >>> ((11 : Int32) &&& 31) = 10 := by rw [w_sh hn 11 11 (by decide), show n / 2 ^ 11 = 10 by omega]; rfl
  have e10 : nI n >>> ((10 : Int32) &&& 31) = nI (n / 1024) := by rw [w_sh hn 10 10 (by decide)]
  have e9 : nI n >>> ((9 : Int32) &&& 31) = nI (n / 512) := by rw [w_sh hn 9 9 (by decide)]
  have e8 : nI n >>> ((8 : Int32) &&& 31) = nI (n / 256) := by rw [w_sh hn 8 8 (by decide)]
  unfold s_Mo_plain s_N_execute s_Mo_plain_109
  rw [e12, e11, e10, e8]
  simp (decide := true) only [↓reduceIte]
  rw [if_neg (show ¬ nI (n / 1024) = 6 from ne_lit (m := 6) (by omega) (by omega) (by decide)), if_neg (show ¬ nI (n / 1024) = 16 from ne_lit (m := 16) (by omega) (by omega) (by decide)), if_neg (show ¬ nI (n / 256) = 70 from ne_lit (m := 70) (by omega) (by omega) (by decide))]
  rfl
theorem pl_11 (th : Int32) (n : Nat) (hn : n < 65536) (hm : n / 2048 = 11) (σ : nS) : s_Mo_plain (nI n) (Pf th σ) = M2 (Pf th) (s_N_execute (nI n) σ) := by
  have id : ∀ F : Int32 × nS, ap2 F (fun r1 σ1 => (r1, σ1)) = F := fun _ => rfl
  have e12 : nI n >>> ((12 : Int32) &&& 31) = 5 := by rw [w_sh hn 12 12 (by decide), show n / 2 ^ 12 = 5 by omega]; rfl
  have e11 : nI n >>> ((11 : Int32) &&& 31) = 11 := by rw [w_sh hn 11 11 (by decide), show n / 2 ^ 11 = 11 by omega]; rfl
  have e10 : nI n >>> ((10 : Int32) &&& 31) = nI (n / 1024) := by rw [w_sh hn 10 10 (by decide)]
  have e9 : nI n >>> ((9 : Int32) &&& 31) = nI (n / 512) := by rw [w_sh hn 9 9 (by decide)]
  have e8 : nI n >>> ((8 : Int32) &&& 31) = nI (n / 256) := by rw [w_sh hn 8 8 (by decide)]
  unfold s_Mo_plain s_N_execute s_Mo_plain_109
  rw [e12, e11, e10, e8]
  simp (decide := true) only [↓reduceIte]
  rw [if_neg (show ¬ nI (n / 1024) = 6 from ne_lit (m := 6) (by omega) (by omega) (by decide)), if_neg (show ¬ nI (n / 1024) = 16 from ne_lit (m := 16) (by omega) (by omega) (by decide)), if_neg (show ¬ nI (n / 256) = 70 from ne_lit (m := 70) (by omega) (by omega) (by decide))]
  rfl
theorem pl_12 (th : Int32) (n : Nat) (hn : n < 65536) (hm : n / 2048 = 12) (σ : nS) : s_Mo_plain (nI n) (Pf th σ) = M2 (Pf th) (s_N_execute (nI n) σ) := by
  have id : ∀ F : Int32 × nS, ap2 F (fun r1 σ1 => (r1, σ1)) = F := fun _ => rfl
  have e12 : nI n >>> ((12 : Int32) &&& 31) = 6 := by rw [w_sh hn 12 12 (by decide), show n / 2 ^ 12 = 6 by omega]; rfl
  have e11 : nI n >>> ((11 : Int32) &&& 31) = 12 := by rw [w_sh hn 11 11 (by decide), show n / 2 ^ 11 = 12 by omega]; rfl
  have e10 : nI n >>> ((10 : Int32) &&& 31) = nI (n / 1024) := by rw [w_sh hn 10 10 (by decide)]
  have e9 : nI n >>> ((9 : Int32) &&& 31) = nI (n / 512) := by rw [w_sh hn 9 9 (by decide)]
  have e8 : nI n >>> ((8 : Int32) &&& 31) = nI (n / 256) := by rw [w_sh hn 8 8 (by decide)]
  unfold s_Mo_plain s_N_execute s_Mo_plain_109 s_Mo_plain_151 s_Mo_plain_188
  rw [e12, e11, e10, e8]
  simp (decide := true) only [↓reduceIte]
  rw [if_neg (show ¬ nI (n / 1024) = 6 from ne_lit (m := 6) (by omega) (by omega) (by decide)), if_neg (show ¬ nI (n / 1024) = 16 from ne_lit (m := 16) (by omega) (by omega) (by decide)), if_neg (show ¬ nI (n / 256) = 70 from ne_lit (m := 70) (by omega) (by omega) (by decide)), Pf_r th σ (n7' _)]
  exact q_move th (nI n) _ _ (n7' _) σ _ (by rw [e11]; try rfl)
theorem pl_13 (th : Int32) (n : Nat) (hn : n < 65536) (hm : n / 2048 = 13) (σ : nS) : s_Mo_plain (nI n) (Pf th σ) = M2 (Pf th) (s_N_execute (nI n) σ) := by
  have id : ∀ F : Int32 × nS, ap2 F (fun r1 σ1 => (r1, σ1)) = F := fun _ => rfl
  have e12 : nI n >>> ((12 : Int32) &&& 31) = 6 := by rw [w_sh hn 12 12 (by decide), show n / 2 ^ 12 = 6 by omega]; rfl
  have e11 : nI n >>> ((11 : Int32) &&& 31) = 13 := by rw [w_sh hn 11 11 (by decide), show n / 2 ^ 11 = 13 by omega]; rfl
  have e10 : nI n >>> ((10 : Int32) &&& 31) = nI (n / 1024) := by rw [w_sh hn 10 10 (by decide)]
  have e9 : nI n >>> ((9 : Int32) &&& 31) = nI (n / 512) := by rw [w_sh hn 9 9 (by decide)]
  have e8 : nI n >>> ((8 : Int32) &&& 31) = nI (n / 256) := by rw [w_sh hn 8 8 (by decide)]
  unfold s_Mo_plain s_N_execute s_Mo_plain_109 s_Mo_plain_151 s_Mo_plain_188
  rw [e12, e11, e10, e8]
  simp (decide := true) only [↓reduceIte]
  rw [if_neg (show ¬ nI (n / 1024) = 6 from ne_lit (m := 6) (by omega) (by omega) (by decide)), if_neg (show ¬ nI (n / 1024) = 16 from ne_lit (m := 16) (by omega) (by omega) (by decide)), if_neg (show ¬ nI (n / 256) = 70 from ne_lit (m := 70) (by omega) (by omega) (by decide)), Pf_r th σ (n7' _)]
  exact q_move th (nI n) _ _ (n7' _) σ _ (by rw [e11]; try rfl)
theorem pl_14 (th : Int32) (n : Nat) (hn : n < 65536) (hm : n / 2048 = 14) (σ : nS) : s_Mo_plain (nI n) (Pf th σ) = M2 (Pf th) (s_N_execute (nI n) σ) := by
  have id : ∀ F : Int32 × nS, ap2 F (fun r1 σ1 => (r1, σ1)) = F := fun _ => rfl
  have e12 : nI n >>> ((12 : Int32) &&& 31) = 7 := by rw [w_sh hn 12 12 (by decide), show n / 2 ^ 12 = 7 by omega]; rfl
  have e11 : nI n >>> ((11 : Int32) &&& 31) = 14 := by rw [w_sh hn 11 11 (by decide), show n / 2 ^ 11 = 14 by omega]; rfl
  have e10 : nI n >>> ((10 : Int32) &&& 31) = nI (n / 1024) := by rw [w_sh hn 10 10 (by decide)]
  have e9 : nI n >>> ((9 : Int32) &&& 31) = nI (n / 512) := by rw [w_sh hn 9 9 (by decide)]
  have e8 : nI n >>> ((8 : Int32) &&& 31) = nI (n / 256) := by rw [w_sh hn 8 8 (by decide)]
  unfold s_Mo_plain s_N_execute s_Mo_plain_109
  rw [e12, e11, e10, e8]
  simp (decide := true) only [↓reduceIte]
  rw [if_neg (show ¬ nI (n / 1024) = 6 from ne_lit (m := 6) (by omega) (by omega) (by decide)), if_neg (show ¬ nI (n / 1024) = 16 from ne_lit (m := 16) (by omega) (by omega) (by decide)), if_neg (show ¬ nI (n / 256) = 70 from ne_lit (m := 70) (by omega) (by omega) (by decide))]
  rfl
theorem pl_15 (th : Int32) (n : Nat) (hn : n < 65536) (hm : n / 2048 = 15) (σ : nS) : s_Mo_plain (nI n) (Pf th σ) = M2 (Pf th) (s_N_execute (nI n) σ) := by
  have id : ∀ F : Int32 × nS, ap2 F (fun r1 σ1 => (r1, σ1)) = F := fun _ => rfl
  have e12 : nI n >>> ((12 : Int32) &&& 31) = 7 := by rw [w_sh hn 12 12 (by decide), show n / 2 ^ 12 = 7 by omega]; rfl
  have e11 : nI n >>> ((11 : Int32) &&& 31) = 15 := by rw [w_sh hn 11 11 (by decide), show n / 2 ^ 11 = 15 by omega]; rfl
  have e10 : nI n >>> ((10 : Int32) &&& 31) = nI (n / 1024) := by rw [w_sh hn 10 10 (by decide)]
  have e9 : nI n >>> ((9 : Int32) &&& 31) = nI (n / 512) := by rw [w_sh hn 9 9 (by decide)]
  have e8 : nI n >>> ((8 : Int32) &&& 31) = nI (n / 256) := by rw [w_sh hn 8 8 (by decide)]
  unfold s_Mo_plain s_N_execute s_Mo_plain_109
  rw [e12, e11, e10, e8]
  simp (decide := true) only [↓reduceIte]
  rw [if_neg (show ¬ nI (n / 1024) = 6 from ne_lit (m := 6) (by omega) (by omega) (by decide)), if_neg (show ¬ nI (n / 1024) = 16 from ne_lit (m := 16) (by omega) (by omega) (by decide)), if_neg (show ¬ nI (n / 256) = 70 from ne_lit (m := 70) (by omega) (by omega) (by decide))]
  rfl
theorem pl_16 (th : Int32) (n : Nat) (hn : n < 65536) (hm : n / 2048 = 16) (σ : nS) : s_Mo_plain (nI n) (Pf th σ) = M2 (Pf th) (s_N_execute (nI n) σ) := by
  have id : ∀ F : Int32 × nS, ap2 F (fun r1 σ1 => (r1, σ1)) = F := fun _ => rfl
  have e12 : nI n >>> ((12 : Int32) &&& 31) = 8 := by rw [w_sh hn 12 12 (by decide), show n / 2 ^ 12 = 8 by omega]; rfl
  have e11 : nI n >>> ((11 : Int32) &&& 31) = 16 := by rw [w_sh hn 11 11 (by decide), show n / 2 ^ 11 = 16 by omega]; rfl
  have e10 : nI n >>> ((10 : Int32) &&& 31) = nI (n / 1024) := by rw [w_sh hn 10 10 (by decide)]
  have e9 : nI n >>> ((9 : Int32) &&& 31) = nI (n / 512) := by rw [w_sh hn 9 9 (by decide)]
  have e8 : nI n >>> ((8 : Int32) &&& 31) = nI (n / 256) := by rw [w_sh hn 8 8 (by decide)]
  unfold s_Mo_plain s_N_execute s_Mo_plain_109
  rw [e12, e11, e10, e8]
  simp (decide := true) only [↓reduceIte]
  rw [if_neg (show ¬ nI (n / 1024) = 6 from ne_lit (m := 6) (by omega) (by omega) (by decide)), if_neg (show ¬ nI (n / 1024) = 16 from ne_lit (m := 16) (by omega) (by omega) (by decide)), if_neg (show ¬ nI (n / 256) = 70 from ne_lit (m := 70) (by omega) (by omega) (by decide))]
  rfl
theorem pl_17 (th : Int32) (n : Nat) (hn : n < 65536) (hm : n / 2048 = 17) (σ : nS) : s_Mo_plain (nI n) (Pf th σ) = M2 (Pf th) (s_N_execute (nI n) σ) := by
  have id : ∀ F : Int32 × nS, ap2 F (fun r1 σ1 => (r1, σ1)) = F := fun _ => rfl
  have e12 : nI n >>> ((12 : Int32) &&& 31) = 8 := by rw [w_sh hn 12 12 (by decide), show n / 2 ^ 12 = 8 by omega]; rfl
  have e11 : nI n >>> ((11 : Int32) &&& 31) = 17 := by rw [w_sh hn 11 11 (by decide), show n / 2 ^ 11 = 17 by omega]; rfl
  have e10 : nI n >>> ((10 : Int32) &&& 31) = nI (n / 1024) := by rw [w_sh hn 10 10 (by decide)]
  have e9 : nI n >>> ((9 : Int32) &&& 31) = nI (n / 512) := by rw [w_sh hn 9 9 (by decide)]
  have e8 : nI n >>> ((8 : Int32) &&& 31) = nI (n / 256) := by rw [w_sh hn 8 8 (by decide)]
  unfold s_Mo_plain s_N_execute s_Mo_plain_109
  rw [e12, e11, e10, e8]
  simp (decide := true) only [↓reduceIte]
  rw [if_neg (show ¬ nI (n / 1024) = 6 from ne_lit (m := 6) (by omega) (by omega) (by decide)), if_neg (show ¬ nI (n / 1024) = 16 from ne_lit (m := 16) (by omega) (by omega) (by decide)), if_neg (show ¬ nI (n / 256) = 70 from ne_lit (m := 70) (by omega) (by omega) (by decide))]
  rfl
theorem pl_18 (th : Int32) (n : Nat) (hn : n < 65536) (hm : n / 2048 = 18) (σ : nS) : s_Mo_plain (nI n) (Pf th σ) = M2 (Pf th) (s_N_execute (nI n) σ) := by
  have id : ∀ F : Int32 × nS, ap2 F (fun r1 σ1 => (r1, σ1)) = F := fun _ => rfl
  have e12 : nI n >>> ((12 : Int32) &&& 31) = 9 := by rw [w_sh hn 12 12 (by decide), show n / 2 ^ 12 = 9 by omega]; rfl
  have e11 : nI n >>> ((11 : Int32) &&& 31) = 18 := by rw [w_sh hn 11 11 (by decide), show n / 2 ^ 11 = 18 by omega]; rfl
  have e10 : nI n >>> ((10 : Int32) &&& 31) = nI (n / 1024) := by rw [w_sh hn 10 10 (by decide)]
  have e9 : nI n >>> ((9 : Int32) &&& 31) = nI (n / 512) := by rw [w_sh hn 9 9 (by decide)]
  have e8 : nI n >>> ((8 : Int32) &&& 31) = nI (n / 256) := by rw [w_sh hn 8 8 (by decide)]
  unfold s_Mo_plain s_N_execute s_Mo_plain_109 s_Mo_plain_204 s_Mo_plain_238
  rw [e12, e11, e10, e8]
  simp (decide := true) only [↓reduceIte]
  rw [if_neg (show ¬ nI (n / 1024) = 6 from ne_lit (m := 6) (by omega) (by omega) (by decide)), if_neg (show ¬ nI (n / 1024) = 16 from ne_lit (m := 16) (by omega) (by omega) (by decide)), if_neg (show ¬ nI (n / 256) = 70 from ne_lit (m := 70) (by omega) (by omega) (by decide)), Pf_r th σ (j := 13) (by decide), ← e8]
  exact q_move th (nI n) _ _ (n7' _) σ _ (by rw [e11]; try rfl)
theorem pl_19 (th : Int32) (n : Nat) (hn : n < 65536) (hm : n / 2048 = 19) (σ : nS) : s_Mo_plain (nI n) (Pf th σ) = M2 (Pf th) (s_N_execute (nI n) σ) := by
  have id : ∀ F : Int32 × nS, ap2 F (fun r1 σ1 => (r1, σ1)) = F := fun _ => rfl
  have e12 : nI n >>> ((12 : Int32) &&& 31) = 9 := by rw [w_sh hn 12 12 (by decide), show n / 2 ^ 12 = 9 by omega]; rfl
  have e11 : nI n >>> ((11 : Int32) &&& 31) = 19 := by rw [w_sh hn 11 11 (by decide), show n / 2 ^ 11 = 19 by omega]; rfl
  have e10 : nI n >>> ((10 : Int32) &&& 31) = nI (n / 1024) := by rw [w_sh hn 10 10 (by decide)]
  have e9 : nI n >>> ((9 : Int32) &&& 31) = nI (n / 512) := by rw [w_sh hn 9 9 (by decide)]
  have e8 : nI n >>> ((8 : Int32) &&& 31) = nI (n / 256) := by rw [w_sh hn 8 8 (by decide)]
  unfold s_Mo_plain s_N_execute s_Mo_plain_109 s_Mo_plain_204 s_Mo_plain_238
  rw [e12, e11, e10, e8]
  simp (decide := true) only [↓reduceIte]
  rw [if_neg (show ¬ nI (n / 1024) = 6 from ne_lit (m := 6) (by omega) (by omega) (by decide)), if_neg (show ¬ nI (n / 1024) = 16 from ne_lit (m := 16) (by omega) (by omega) (by decide)), if_neg (show ¬ nI (n / 256) = 70 from ne_lit (m := 70) (by omega) (by omega) (by decide)), Pf_r th σ (j := 13) (by decide), ← e8]
  exact q_move th (nI n) _ _ (n7' _) σ _ (by rw [e11]; try rfl)
theorem pl_20 (th : Int32) (n : Nat) (hn : n < 65536) (hm : n / 2048 = 20) (σ : nS) : s_Mo_plain (nI n) (Pf th σ) = M2 (Pf th) (s_N_execute (nI n) σ) := by
  have id : ∀ F : Int32 × nS, ap2 F (fun r1 σ1 => (r1, σ1)) = F := fun _ => rfl
  have e12 : nI n >>> ((12 : Int32) &&& 31) = 10 := by rw [w_sh hn 12 12 (by decide), show n / 2 ^ 12 = 10 by omega]; rfl
  have e11 : nI n >>> ((11 : Int32) &&& 31) = 20 := by rw [w_sh hn 11 11 (by decide), show n / 2 ^ 11 = 20 by omega]; rfl
  have e10 : nI n >>> ((10 : Int32) &&& 31) = nI (n / 1024) := by rw [w_sh hn 10 10 (by decide)]
  have e9 : nI n >>> ((9 : Int32) &&& 31) = nI (n / 512) := by rw [w_sh hn 9 9 (by decide)]
  have e8 : nI n >>> ((8 : Int32) &&& 31) = nI (n / 256) := by rw [w_sh hn 8 8 (by decide)]
  unfold s_Mo_plain s_N_execute s_Mo_plain_109
  rw [e12, e11, e10, e8]
  simp (decide := true) only [↓reduceIte]
  rw [if_neg (show ¬ nI (n / 1024) = 6 from ne_lit (m := 6) (by omega) (by omega) (by decide)), if_neg (show ¬ nI (n / 1024) = 16 from ne_lit (m := 16) (by omega) (by omega) (by decide)), if_neg (show ¬ nI (n / 256) = 70 from ne_lit (m := 70) (by omega) (by omega) (by decide))]
  rfl
theorem pl_21 (th : Int32) (n : Nat) (hn : n < 65536) (hm : n / 2048 = 21) (σ : nS) : s_Mo_plain (nI n) (Pf th σ) = M2 (Pf th) (s_N_execute (nI n) σ) := by
  have id : ∀ F : Int32 × nS, ap2 F (fun r1 σ1 => (r1, σ1)) = F := fun _ => rfl
  have e12 : nI n >>> ((12 : Int32) &&& 31) = 10 := by rw [w_sh hn 12 12 (by decide), show n / 2 ^ 12 = 10 by omega]; rfl
  have e11 : nI n >>> ((11 : Int32) &&& 31) = 21 := by rw [w_sh hn 11 11 (by decide), show n / 2 ^ 11 = 21 by omega]; rfl
  have e10 : nI n >>> ((10 : Int32) &&& 31) = nI (n / 1024) := by rw [w_sh hn 10 10 (by decide)]
  have e9 : nI n >>> ((9 : Int32) &&& 31) = nI (n / 512) := by rw [w_sh hn 9 9 (by decide)]
  have e8 : nI n >>> ((8 : Int32) &&& 31) = nI (n / 256) := by rw [w_sh hn 8 8 (by decide)]
  unfold s_Mo_plain s_N_execute s_Mo_plain_109
  rw [e12, e11, e10, e8]
  simp (decide := true) only [↓reduceIte]
  rw [if_neg (show ¬ nI (n / 1024) = 6 from ne_lit (m := 6) (by omega) (by omega) (by decide)), if_neg (show ¬ nI (n / 1024) = 16 from ne_lit (m := 16) (by omega) (by omega) (by decide)), if_neg (show ¬ nI (n / 256) = 70 from ne_lit (m := 70) (by omega) (by omega) (by decide))]
  rfl
theorem pl_22 (th : Int32) (n : Nat) (hn : n < 65536) (hm : n / 2048 = 22) (σ : nS) (hp : n / 512 ≠ 94) (hf : 0 ≤ σ 8 1) (hb : b01 (σ 8 3)) : s_Mo_plain (nI n) (Pf th σ) = M2 (Pf th) (s_N_execute (nI n) σ) := by
  have id : ∀ F : Int32 × nS, ap2 F (fun r1 σ1 => (r1, σ1)) = F := fun _ => rfl
  have e12 : nI n >>> ((12 : Int32) &&& 31) = 11 := by rw [w_sh hn 12 12 (by decide), show n / 2 ^ 12 = 11 by omega]; rfl
  have e11 : nI n >>> ((11 : Int32) &&& 31) = 22 := by rw [w_sh hn 11 11 (by decide), show n / 2 ^ 11 = 22 by omega]; rfl
  have e10 : nI n >>> ((10 : Int32) &&& 31) = nI (n / 1024) := by rw [w_sh hn 10 10 (by decide)]
  have e9 : nI n >>> ((9 : Int32) &&& 31) = nI (n / 512) := by rw [w_sh hn 9 9 (by decide)]
  have e8 : nI n >>> ((8 : Int32) &&& 31) = nI (n / 256) := by rw [w_sh hn 8 8 (by decide)]
  unfold s_Mo_plain s_N_execute s_Mo_plain_109
  rw [e12, e11, e10, e8]
  simp (decide := true) only [↓reduceIte]
  rw [if_neg (show ¬ nI (n / 1024) = 6 from ne_lit (m := 6) (by omega) (by omega) (by decide)), if_neg (show ¬ nI (n / 1024) = 16 from ne_lit (m := 16) (by omega) (by omega) (by decide)), if_neg (show ¬ nI (n / 256) = 70 from ne_lit (m := 70) (by omega) (by omega) (by decide))]
  exact q_special th n hn (by omega) hp σ hf hb
theorem pl_23 (th : Int32) (n : Nat) (hn : n < 65536) (hm : n / 2048 = 23) (σ : nS) (hp : n / 512 ≠ 94) (hf : 0 ≤ σ 8 1) (hb : b01 (σ 8 3)) : s_Mo_plain (nI n) (Pf th σ) = M2 (Pf th) (s_N_execute (nI n) σ) := by
  have id : ∀ F : Int32 × nS, ap2 F (fun r1 σ1 => (r1, σ1)) = F := fun _ => rfl
  have e12 : nI n >>> ((12 : Int32) &&& 31) = 11 := by rw [w_sh hn 12 12 (by decide), show n / 2 ^ 12 = 11 by omega]; rfl
  have e11 : nI n >>> ((11 : Int32) &&& 31) = 23 := by rw [w_sh hn 11 11 (by decide), show n / 2 ^ 11 = 23 by omega]; rfl
  have e10 : nI n >>> ((10 : Int32) &&& 31) = nI (n / 1024) := by rw [w_sh hn 10 10 (by decide)]
  have e9 : nI n >>> ((9 : Int32) &&& 31) = nI (n / 512) := by rw [w_sh hn 9 9 (by decide)]
  have e8 : nI n >>> ((8 : Int32) &&& 31) = nI (n / 256) := by rw [w_sh hn 8 8 (by decide)]
  unfold s_Mo_plain s_N_execute s_Mo_plain_109
  rw [e12, e11, e10, e8]
  simp (decide := true) only [↓reduceIte]
  rw [if_neg (show ¬ nI (n / 1024) = 6 from ne_lit (m := 6) (by omega) (by omega) (by decide)), if_neg (show ¬ nI (n / 1024) = 16 from ne_lit (m := 16) (by omega) (by omega) (by decide)), if_neg (show ¬ nI (n / 256) = 70 from ne_lit (m := 70) (by omega) (by omega) (by decide))]
  exact q_special th n hn (by omega) hp σ hf hb
theorem pl_24 (th : Int32) (n : Nat) (hn : n < 65536) (hm : n / 2048 = 24) (σ : nS) : s_Mo_plain (nI n) (Pf th σ) = M2 (Pf th) (s_N_execute (nI n) σ) := by
  have id : ∀ F : Int32 × nS, ap2 F (fun r1 σ1 => (r1, σ1)) = F := fun _ => rfl
  have e12 : nI n >>> ((12 : Int32) &&& 31) = 12 := by rw [w_sh hn 12 12 (by decide), show n / 2 ^ 12 = 12 by omega]; rfl
  have e11 : nI n >>> ((11 : Int32) &&& 31) = 24 := by rw [w_sh hn 11 11 (by decide), show n / 2 ^ 11 = 24 by omega]; rfl
  have e10 : nI n >>> ((10 : Int32) &&& 31) = nI (n / 1024) := by rw [w_sh hn 10 10 (by decide)]
  have e9 : nI n >>> ((9 : Int32) &&& 31) = nI (n / 512) := by rw [w_sh hn 9 9 (by decide)]
  have e8 : nI n >>> ((8 : Int32) &&& 31) = nI (n / 256) := by rw [w_sh hn 8 8 (by decide)]
  unfold s_Mo_plain s_N_execute s_Mo_plain_109
  rw [e12, e11, e10, e8]
  simp (decide := true) only [↓reduceIte]
  rw [if_neg (show ¬ nI (n / 1024) = 6 from ne_lit (m := 6) (by omega) (by omega) (by decide)), if_neg (show ¬ nI (n / 1024) = 16 from ne_lit (m := 16) (by omega) (by omega) (by decide)), if_neg (show ¬ nI (n / 256) = 70 from ne_lit (m := 70) (by omega) (by omega) (by decide))]
  rfl
theorem pl_25 (th : Int32) (n : Nat) (hn : n < 65536) (hm : n / 2048 = 25) (σ : nS) : s_Mo_plain (nI n) (Pf th σ) = M2 (Pf th) (s_N_execute (nI n) σ) := by
  have id : ∀ F : Int32 × nS, ap2 F (fun r1 σ1 => (r1, σ1)) = F := fun _ => rfl
  have e12 : nI n >>> ((12 : Int32) &&& 31) = 12 := by rw [w_sh hn 12 12 (by decide), show n / 2 ^ 12 = 12 by omega]; rfl
  have e11 : nI n >>> ((11 : Int32) &&& 31) = 25 := by rw [w_sh hn 11 11 (by decide), show n / 2 ^ 11 = 25 by omega]; rfl
  have e10 : nI n >>> ((10 : Int32) &&& 31) = nI (n / 1024) := by rw [w_sh hn 10 10 (by decide)]
  have e9 : nI n >>> ((9 : Int32) &&& 31) = nI (n / 512) := by rw [w_sh hn 9 9 (by decide)]
  have e8 : nI n >>> ((8 : Int32) &&& 31) = nI (n / 256) := by rw [w_sh hn 8 8 (by decide)]
  unfold s_Mo_plain s_N_execute s_Mo_plain_109
  rw [e12, e11, e10, e8]
  simp (decide := true) only [↓reduceIte]
  rw [if_neg (show ¬ nI (n / 1024) = 6 from ne_lit (m := 6) (by omega) (by omega) (by decide)), if_neg (show ¬ nI (n / 1024) = 16 from ne_lit (m := 16) (by omega) (by omega) (by decide)), if_neg (show ¬ nI (n / 256) = 70 from ne_lit (m := 70) (by omega) (by omega) (by decide))]
  rfl
theorem pl_29 (th : Int32) (n : Nat) (hn : n < 65536) (hm : n / 2048 = 29) (σ : nS) : s_Mo_plain (nI n) (Pf th σ) = M2 (Pf th) (s_N_execute (nI n) σ) := by
  have id : ∀ F : Int32 × nS, ap2 F (fun r1 σ1 => (r1, σ1)) = F := fun _ => rfl
  have e12 : nI n >>> ((12 : Int32) &&& 31) = 14 := by rw [w_sh hn 12 12 (by decide), show n / 2 ^ 12 = 14 by omega]; rfl
  have e11 : nI n >>> ((11 : Int32) &&& 31) = 29 := by rw [w_sh hn 11 11 (by decide), show n / 2 ^ 11 = 29 by omega]; rfl
  have e10 : nI n >>> ((10 : Int32) &&& 31) = nI (n / 1024) := by rw [w_sh hn 10 10 (by decide)]
  have e9 : nI n >>> ((9 : Int32) &&& 31) = nI (n / 512) := by rw [w_sh hn 9 9 (by decide)]
  have e8 : nI n >>> ((8 : Int32) &&& 31) = nI (n / 256) := by rw [w_sh hn 8 8 (by decide)]
  unfold s_Mo_plain s_N_execute s_Mo_plain_109 s_N_branch
  rw [e12, e11, e10, e8]
  simp (decide := true) only [↓reduceIte]
  rw [if_neg (show ¬ nI (n / 1024) = 6 from ne_lit (m := 6) (by omega) (by omega) (by decide)), if_neg (show ¬ nI (n / 1024) = 16 from ne_lit (m := 16) (by omega) (by omega) (by decide)), if_neg (show ¬ nI (n / 256) = 70 from ne_lit (m := 70) (by omega) (by omega) (by decide))]
  rfl
theorem pl_30 (th : Int32) (n : Nat) (hn : n < 65536) (hm : n / 2048 = 30) (σ : nS) : s_Mo_plain (nI n) (Pf th σ) = M2 (Pf th) (s_N_execute (nI n) σ) := by
  have id : ∀ F : Int32 × nS, ap2 F (fun r1 σ1 => (r1, σ1)) = F := fun _ => rfl
  have e12 : nI n >>> ((12 : Int32) &&& 31) = 15 := by rw [w_sh hn 12 12 (by decide), show n / 2 ^ 12 = 15 by omega]; rfl
  have e11 : nI n >>> ((11 : Int32) &&& 31) = 30 := by rw [w_sh hn 11 11 (by decide), show n / 2 ^ 11 = 30 by omega]; rfl
  have e10 : nI n >>> ((10 : Int32) &&& 31) = nI (n / 1024) := by rw [w_sh hn 10 10 (by decide)]
  have e9 : nI n >>> ((9 : Int32) &&& 31) = nI (n / 512) := by rw [w_sh hn 9 9 (by decide)]
  have e8 : nI n >>> ((8 : Int32) &&& 31) = nI (n / 256) := by rw [w_sh hn 8 8 (by decide)]
  unfold s_Mo_plain s_N_execute s_Mo_plain_109
  rw [e12, e11, e10, e8]
  simp (decide := true) only [↓reduceIte]
  rw [if_neg (show ¬ nI (n / 1024) = 6 from ne_lit (m := 6) (by omega) (by omega) (by decide)), if_neg (show ¬ nI (n / 1024) = 16 from ne_lit (m := 16) (by omega) (by omega) (by decide)), if_neg (show ¬ nI (n / 256) = 70 from ne_lit (m := 70) (by omega) (by omega) (by decide))]
  rfl
theorem pl_31 (th : Int32) (n : Nat) (hn : n < 65536) (hm : n / 2048 = 31) (σ : nS) : s_Mo_plain (nI n) (Pf th σ) = M2 (Pf th) (s_N_execute (nI n) σ) := by
  have id : ∀ F : Int32 × nS, ap2 F (fun r1 σ1 => (r1, σ1)) = F := fun _ => rfl
  have e12 : nI n >>> ((12 : Int32) &&& 31) = 15 := by rw [w_sh hn 12 12 (by decide), show n / 2 ^ 12 = 15 by omega]; rfl
  have e11 : nI n >>> ((11 : Int32) &&& 31) = 31 := by rw [w_sh hn 11 11 (by decide), show n / 2 ^ 11 = 31 by omega]; rfl
  have e10 : nI n >>> ((10 : Int32) &&& 31) = nI (n / 1024) := by rw [w_sh hn 10 10 (by decide)]
  have e9 : nI n >>> ((9 : Int32) &&& 31) = nI (n / 512) := by rw [w_sh hn 9 9 (by decide)]
  have e8 : nI n >>> ((8 : Int32) &&& 31) = nI (n / 256) := by rw [w_sh hn 8 8 (by decide)]
  unfold s_Mo_plain s_N_execute s_Mo_plain_109
  rw [e12, e11, e10, e8]
  simp (decide := true) only [↓reduceIte]
  rw [if_neg (show ¬ nI (n / 1024) = 6 from ne_lit (m := 6) (by omega) (by omega) (by decide)), if_neg (show ¬ nI (n / 1024) = 16 from ne_lit (m := 16) (by omega) (by omega) (by decide)), if_neg (show ¬ nI (n / 256) = 70 from ne_lit (m := 70) (by omega) (by omega) (by decide))]
  rfl
