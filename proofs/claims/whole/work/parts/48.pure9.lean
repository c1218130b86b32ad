-- going into an exception and out of it
theorem due_nI (σ : nS) : ∃ i : Nat, i ≤ 15 ∧ s_Ex_due σ = nI i := by
  have h := dA_le σ 14 0 (by decide)
  have e : s_Ex_due σ = s_Ex_due_4_16 (nI (dA σ 14 0)) σ := dA_2 σ
  rw [e]
  unfold s_Ex_due_4_16 s_Ex_due_75
  by_cases a : nI (dA σ 14 0) = 0
  · rw [if_pos a]; exact ⟨0, by decide, rfl⟩
  · rw [if_neg a]
    by_cases b : s_Ex_level σ ≤ s_Ex_group (nI (dA σ 14 0)) σ
    · rw [if_pos b]; exact ⟨0, by decide, rfl⟩
    · rw [if_neg b]; exact ⟨_, h, rfl⟩
theorem due_pos {σ : nS} (h : ¬ s_Ex_due σ = 0) : ¬ s_Ex_due σ ≤ 0 := by
  obtain ⟨i, hi, e⟩ := due_nI σ
  rw [e] at h ⊢
  rcases Nat.eq_zero_or_pos i with z | z
  · subst z; exact absurd nI_0 h
  · exact nI_nle z (by omega)
theorem due_row0 (σ : nS) (hf : 0 ≤ σ 8 1) (j : Nat) (v : Int32) : s_Ex_due (up2 σ 0 j v) = s_Ex_due σ := by
  have h1 : RelC (up2 σ 0 j v) (Rf 0 σ) := ⟨fun k h1 h7 => by rw [(Rf_relC 0 σ).1 k h1 h7, up2_row _ _ _ (by omega)], fun i h => by rw [(Rf_relC 0 σ).2 i h, up2_row _ _ _ (by decide)]⟩
  rw [← due_eq (Rf_relC 0 σ) hf, due_eq h1 (by rw [up2_row _ _ _ (by decide)]; exact hf)]
theorem mld_row0 (a : Int32) (σ : nS) (j : Nat) (v : Int32) : s_Mo_load a (up2 σ 0 j v) = s_Mo_load a σ := by
  unfold s_Mo_load
  rw [up2_row _ _ _ (by decide)]
def lv (σ : nS) : nS := s_Ex_leave (σ 8 10) σ
theorem lv_row0 (σ : nS) (j : Nat) (v : Int32) : lv (up2 σ 0 j v) = up2 (lv σ) 0 j v := by
  unfold lv s_Ex_leave
  rw [up2_row σ (x := 8) j v (by decide)]
  by_cases h : σ 8 10 = 2
  · rw [if_pos h, if_pos h, up2_comm σ _ _ (Or.inl (by decide))]
  · rw [if_neg h, if_neg h, up2_comm σ _ _ (Or.inl (by decide)), up2_comm _ _ _ (Or.inl (by decide))]
theorem lv_row (σ : nS) (k : Nat) (h3 : k ≠ 3) (h8 : k ≠ 8) : lv σ k = σ k := by
  unfold lv s_Ex_leave
  by_cases h : σ 8 10 = 2
  · rw [if_pos h, up2_row _ _ _ h3]
  · rw [if_neg h, up2_row _ _ _ h8, up2_row _ _ _ h3]
theorem lv8 (σ : nS) (j : Nat) (h3 : j ≠ 3) : lv σ 8 j = σ 8 j := by
  unfold lv s_Ex_leave
  by_cases h : σ 8 10 = 2
  · rw [if_pos h, up2_row _ _ _ (by decide)]
  · rw [if_neg h, up2_at, if_neg (fun q => h3 q.2), up2_row _ _ _ (by decide)]
theorem lv_load (a : Int32) (σ : nS) : s_Me_load a (lv σ) = s_Me_load a σ := by
  unfold s_Me_load
  rw [lv_row σ 9 (by decide) (by decide)]
def bk (sp v : Int32) (σ : nS) : Bool := if s_Me_holdsFrame sp = true then (if (s_Me_load (sp + 28) σ) &&& 15 = 1 then false else (if (s_Me_load (sp + 28) σ) &&& 15 = 0 then (if v = (-7) then true else false) else (if v = (-7) then false else true))) else false
def unst (sp : Int32) (σ : nS) : nS := s_N_unstack sp (s_Me_load (sp + 28) σ) σ
def ent (e v sp : Int32) (σ : nS) : nS := s_N_enter e (up2 (up2 (up2 σ 0 13 sp) 0 14 v) 8 13 (σ 8 13 + 1))
section JUMP
variable {M : nS → nS} {th : Int32}
theorem q_isBack (G : Gd M) (sp v : Int32) (σ : nS) : s_Mo_isBack sp v (M σ) = bk sp v σ := by
  unfold s_Mo_isBack bk s_Mo_isBack_35 s_Mo_isBack_46 s_Mo_isBack_53
  rw [q_isFrame]
  by_cases h : s_Me_holdsFrame sp = true
  · rw [if_pos h, if_pos h, q_load G (frame_wok h 7 (by decide) 28 rfl)]
    by_cases a : (s_Me_load (sp + 28) σ) &&& 15 = 1
    · rw [if_pos a, if_pos a]
    · rw [if_neg a, if_neg a]
      by_cases c0 : (s_Me_load (sp + 28) σ) &&& 15 = 0
      · (try simp only [if_pos c0])
        by_cases c1 : v = (-7)
        · (try simp only [if_pos c1])
          rfl
        · (try simp only [if_neg c1])
          rfl
      · (try simp only [if_neg c0])
        by_cases c1 : v = (-7)
        · (try simp only [if_pos c1])
          rfl
        · (try simp only [if_neg c1])
          rfl
  · rw [if_neg h, if_neg h]
theorem mul4 (i : Nat) : 4 * nI i = nI (4 * i) := (Int32.ofNat_mul 4 i).symm
theorem q_enter (G : Gd M) (T : ∀ σ v, up2 (M σ) 0 15 v = Rf th (up2 σ 0 15 v)) {e : Int32} (he : ∃ i : Nat, i ≤ 15 ∧ e = nI i) (σ : nS) : s_Mo_enter e (M σ) = Rf th (s_N_enter e σ) := by
  obtain ⟨i, hi, rfl⟩ := he
  unfold s_Mo_enter s_N_enter s_N_even
  rw [← G.2.2.1 _ 3 _ _ (by decide) (by decide) (by decide), ← G.2.2.1 _ 2 _ _ (by decide) (by decide) (by decide), ← G.u8 _ _ _ (by decide), q_load G ⟨i, by omega, mul4 i⟩, T]
theorem unpack_row0 (f : Int32) (σ : nS) (j : Nat) (v : Int32) : s_Fl_unpack f (up2 σ 0 j v) = up2 (s_Fl_unpack f σ) 0 j v := by
  unfold s_Fl_unpack s_Fl_unpack_13 s_Fl_unpack_28 s_Fl_unpack_43 s_Fl_unpack_58
  by_cases a : f &&& 8 = 0 <;> by_cases b : f &&& 4 = 0 <;> by_cases c : f &&& 2 = 0 <;> by_cases d : f &&& 1 = 0 <;> simp only [a, b, c, d, if_true, if_false] <;> rw [up2_comm σ _ _ (Or.inl (by decide)), up2_comm (k := 0) _ v _ (Or.inl (by decide)), up2_comm (k := 0) _ v _ (Or.inl (by decide)), up2_comm (k := 0) _ v _ (Or.inl (by decide))]
/-- the registers that a frame brings back -/
def RG (sp st : Int32) (σ : nS) : nS := up2 (up2 (up2 (up2 (up2 (up2 (up2 (up2 σ 0 0 (s_Me_load (sp + 0) σ)) 0 1 (s_Me_load (sp + 4) σ)) 0 2 (s_Me_load (sp + 8) σ)) 0 3 (s_Me_load (sp + 12) σ)) 0 12 (s_Me_load (sp + 16) σ)) 0 14 (s_Me_load (sp + 20) σ)) 0 15 (s_N_even (s_Me_load (sp + 24) σ))) 0 13 (if st &&& 512 = 0 then sp + 32 else sp + 36)
theorem add36 (x : Int32) : x + 32 + 4 = x + 36 := by
  rw [Int32.add_assoc]
  rfl
theorem unst_RG (sp st : Int32) (σ : nS) : s_N_unstack sp st σ = up2 (s_Fl_unpack (ush st 28) (RG sp st σ)) 8 10 (st &&& 15) := by
  unfold s_N_unstack s_N_unstack_2_0 s_N_unstack_2_1 s_N_unstack_2_2 s_N_unstack_2_3 s_N_unstack_2_4 s_N_unstack_2_5 s_N_unstack_2_6 s_N_unstack_2_7 s_N_unstack_78 ap1 RG
  simp only [ld_row0, up2_self, up2_same]
  by_cases h : st &&& 512 = 0
  · rw [if_pos h, if_pos h, Int32.add_zero (sp + 32)]
  · rw [if_neg h, if_neg h, add36]
theorem RG_over (sp st : Int32) (σ : nS) (j : Nat) (v : Int32) (hj : j = 0 ∨ j = 1 ∨ j = 2 ∨ j = 3 ∨ j = 12 ∨ j = 13 ∨ j = 14 ∨ j = 15) : RG sp st (up2 σ 0 j v) = RG sp st σ := by
  unfold RG
  simp only [ld_row0]
  funext x y
  simp only [up2_at]
  by_cases h : x = 0 ∧ y = j
  · obtain ⟨rfl, rfl⟩ := h
    rcases hj with rfl | rfl | rfl | rfl | rfl | rfl | rfl | rfl <;> simp (decide := true) only [↓reduceIte]
  · simp only [h, if_false]
theorem RG_comm (sp st : Int32) (σ : nS) (j : Nat) (v : Int32) (h4 : 4 ≤ j) (h8 : j < 8) : RG sp st (up2 σ 0 j v) = up2 (RG sp st σ) 0 j v := by
  unfold RG
  simp only [ld_row0]
  rw [up2_comm σ _ _ (Or.inr (by omega)), up2_comm _ v _ (Or.inr (by omega)), up2_comm _ v _ (Or.inr (by omega)), up2_comm _ v _ (Or.inr (by omega)), up2_comm _ v _ (Or.inr (by omega)), up2_comm _ v _ (Or.inr (by omega)), up2_comm _ v _ (Or.inr (by omega)), up2_comm _ v _ (Or.inr (by omega))]
theorem unst_over (sp : Int32) (σ : nS) (j : Nat) (v : Int32) (hj : j = 0 ∨ j = 1 ∨ j = 2 ∨ j = 3 ∨ j = 12 ∨ j = 13 ∨ j = 14 ∨ j = 15) : unst sp (up2 σ 0 j v) = unst sp σ := by
  unfold unst
  rw [unst_RG, unst_RG, ld_row0, RG_over _ _ _ _ _ hj]
theorem unst_comm (sp : Int32) (σ : nS) (j : Nat) (v : Int32) (h4 : 4 ≤ j) (h8 : j < 8) : unst sp (up2 σ 0 j v) = up2 (unst sp σ) 0 j v := by
  unfold unst
  rw [unst_RG, unst_RG, ld_row0, RG_comm _ _ _ _ _ h4 h8, unpack_row0, up2_comm _ _ _ (Or.inl (by decide))]
theorem q_back (G : Gd M) (H : G0 M) (T : ∀ σ v, up2 (M σ) 0 15 v = Rf th (up2 σ 0 15 v)) {sp : Int32} (hs : s_Me_holdsFrame sp = true) (σ : nS) : s_Mo_comeBack sp (up2 (M σ) 0 13 sp) = Rf th (unst sp σ) := by
  have GR := Rf_gd th
  have w : ∀ (k : Nat) (c : Int32), k < 8 → c = nI (4 * k) → s_Mo_load (sp + c) (M σ) = s_Me_load (sp + c) σ := fun k c h e => q_load G (frame_wok hs k h c e) σ
  unfold s_Mo_comeBack s_Mo_comeBack_11_0 s_Mo_comeBack_11_1 s_Mo_comeBack_11_2 s_Mo_comeBack_11_3 s_Mo_comeBack_11_4 s_Mo_comeBack_123 ap1 unst
  rw [unst_RG]
  simp only [mld_row0]
  rw [w 0 0 (by decide) rfl, w 1 4 (by decide) rfl, w 2 8 (by decide) rfl, w 3 12 (by decide) rfl, w 4 16 (by decide) rfl, w 5 20 (by decide) rfl, w 6 24 (by decide) rfl, w 7 28 (by decide) rfl]
  generalize s_Me_load (sp + 28) σ = st
  rw [← H _ 13 _ (by decide), ← H _ 0 _ (by decide), ← H _ 1 _ (by decide), ← H _ 2 _ (by decide), ← H _ 3 _ (by decide), ← H _ 12 _ (by decide), ← H _ 14 _ (by decide), T, q_flags GR, ← GR.u8 _ _ _ (by decide)]
  have fin : ∀ x : Int32, up2 (Rf th (up2 (s_Fl_unpack (ush st 28) (up2 (up2 (up2 (up2 (up2 (up2 (up2 (up2 σ 0 13 sp) 0 0 (s_Me_load (sp + 0) σ)) 0 1 (s_Me_load (sp + 4) σ)) 0 2 (s_Me_load (sp + 8) σ)) 0 3 (s_Me_load (sp + 12) σ)) 0 12 (s_Me_load (sp + 16) σ)) 0 14 (s_Me_load (sp + 20) σ)) 0 15 ((s_Me_load (sp + 24) σ) &&& (-2)))) 8 10 (st &&& 15))) 0 13 x = Rf th (up2 (s_Fl_unpack (ush st 28) (up2 (up2 (up2 (up2 (up2 (up2 (up2 (up2 σ 0 0 (s_Me_load (sp + 0) σ)) 0 1 (s_Me_load (sp + 4) σ)) 0 2 (s_Me_load (sp + 8) σ)) 0 3 (s_Me_load (sp + 12) σ)) 0 12 (s_Me_load (sp + 16) σ)) 0 14 (s_Me_load (sp + 20) σ)) 0 15 (s_N_even (s_Me_load (sp + 24) σ))) 0 13 x)) 8 10 (st &&& 15)) := by
    intro x
    rw [← Rf_upk th _ 0 13 x (by decide) (by decide)]
    refine congrArg (Rf th) ?_
    rw [up2_comm _ _ _ (Or.inl (by decide)), ← unpack_row0]
    refine congrArg (fun z => up2 (s_Fl_unpack (ush st 28) z) 8 10 (st &&& 15)) ?_
    unfold s_N_even
    funext x y
    simp only [up2_at]
    by_cases h : x = 0 ∧ y = 13
    · simp only [h, if_true, and_self]
    · simp only [h, if_false]
  unfold RG
  by_cases h : st &&& 512 = 0
  · rw [if_pos h, if_pos h]; exact fin _
  · rw [if_neg h, if_neg h]; exact fin _
end JUMP
def rt (v : Int32) (σ : nS) : Prop := ¬ σ 8 10 = 0 ∧ (v = (-7) ∨ v = (-15))
theorem q_isRet {M : nS → nS} (G : Gd M) (v : Int32) (σ : nS) : s_Mo_isReturn v (M σ) = true ↔ rt v σ := by
  unfold s_Mo_isReturn rt s_Mo_isReturn_23 s_Mo_isReturn_19
  rw [gd8 G σ (j := 10) (by decide)]
  by_cases a : σ 8 10 = 0
  · simp [a]
  · by_cases b : v = (-7)
    · simp [a, b]
    · by_cases c : v = (-15)
      · simp [a, c]
      · simp [a, b, c]
theorem q_jump (th : Int32) (v sp : Int32) (σ : nS) (hf : 0 ≤ σ 8 1) (hr : rt v σ) : s_Mo_jump v sp (Pf th σ) = if s_Ex_due (lv σ) = 0 then (if bk sp v (lv σ) = true then ((0 : Int32), Rf th (unst sp (lv σ))) else (6, Pf th (lv σ))) else (0, Rf th (ent (s_Ex_due (lv σ)) v sp (lv σ))) := by
  have G := Pf_gd th
  have core : ∀ ρ : nS, 0 ≤ ρ 8 1 → s_Mo_jump_52 v sp (Pf th ρ) = if s_Ex_due ρ = 0 then (if bk sp v ρ = true then ((0 : Int32), Rf th (unst sp ρ)) else (6, Pf th ρ)) else (0, Rf th (ent (s_Ex_due ρ) v sp ρ)) := by
    intro ρ hf
    unfold s_Mo_jump_52 s_Mo_jump_73 s_Mo_jump_116 ap1
    rw [q_due th ρ hf, q_isBack G]
    by_cases d : s_Ex_due ρ = 0
    · rw [if_pos d, if_pos d, d]
      by_cases b : bk sp v ρ = true
      · have hs : s_Me_holdsFrame sp = true := by
          unfold bk at b
          by_cases h : s_Me_holdsFrame sp = true
          · exact h
          · rw [if_neg h] at b; cases b
        rw [if_pos b, if_pos b, if_pos (by decide), q_back G (Pf_g0 th) (Pf_to th) hs]
      · rw [if_neg b, if_neg b]
    · rw [if_neg d, if_neg d, if_neg (due_pos d)]
      rw [up2_row _ (x := 8) _ _ (by decide), gd8 G ρ (j := 13) (by decide), ← Pf_g0 th _ 13 _ (by decide), ← G.u8 _ _ _ (by decide), ← Pf_g0 th _ 14 _ (by decide), q_enter G (Pf_to th) (due_nI ρ), up2_comm _ _ _ (Or.inl (by decide))]
      rfl
  unfold s_Mo_jump
  rw [if_pos ((q_isRet G v σ).mpr hr), gd8 G σ (j := 10) (by decide), up2_row _ _ _ (by decide), gd8 G σ (j := 10) (by decide), ← G.2.2.1 _ 3 _ _ (by decide) (by decide) (by decide), ← G.u8 _ _ _ (by decide)]
  have hl : 0 ≤ lv σ 8 1 := by rw [lv8 σ 1 (by decide)]; exact hf
  have c := core (lv σ) hl
  unfold lv s_Ex_leave at c
  unfold lv s_Ex_leave
  by_cases h : σ 8 10 = 2
  · rw [if_pos h] at c ⊢
    simp only [h, if_true] at c ⊢
    exact c
  · rw [if_neg h] at c ⊢
    simp only [h, if_false] at c ⊢
    exact c
theorem q_jump0 (th : Int32) (v sp : Int32) (σ : nS) (hr : ¬ rt v σ) : s_Mo_jump v sp (Pf th σ) = (0, Rf th (up2 (up2 σ 0 13 sp) 0 15 (s_N_even v))) := by
  unfold s_Mo_jump
  rw [if_neg (fun q => hr ((q_isRet (Pf_gd th) v σ).mp q)), ← Pf_g0 th _ 13 _ (by decide), Pf_to]
  rfl
theorem enter_over (e : Int32) (σ : nS) (w : Int32) : s_N_enter e (up2 σ 0 15 w) = s_N_enter e σ := by
  unfold s_N_enter
  rw [up2_comm σ _ _ (Or.inl (by decide)), up2_comm _ w _ (Or.inl (by decide)), up2_comm _ w _ (Or.inl (by decide)), ld_row0, up2_same]
theorem rd15 (σ : nS) (v sp : Int32) : (up2 (up2 σ 0 15 v) 0 13 sp) 0 15 = v := by
  rw [up2_at, if_neg (by decide), up2_self]
theorem n_land0 (σ : nS) (v sp : Int32) (hr : ¬ rt v σ) : s_N_land (up2 (up2 σ 0 15 v) 0 13 sp) = (0, up2 (up2 σ 0 13 sp) 0 15 (s_N_even v)) := by
  unfold s_N_land s_N_land_33
  rw [up2_row _ _ _ (by decide), up2_row _ _ _ (by decide), rd15]
  have e : up2 (up2 (up2 σ 0 15 v) 0 13 sp) 0 15 (s_N_even v) = up2 (up2 σ 0 13 sp) 0 15 (s_N_even v) := by
    rw [up2_comm σ _ _ (Or.inr (by decide)), up2_same]
  rw [e]
  unfold rt at hr
  by_cases a : σ 8 10 = 0
  · rw [if_pos a]
  · rw [if_neg a, if_neg (fun q => hr ⟨a, Or.inl q⟩), if_neg (fun q => hr ⟨a, Or.inr q⟩)]
theorem n_land1 (σ : nS) (v sp : Int32) (hf : 0 ≤ σ 8 1) (hr : rt v σ) : s_N_land (up2 (up2 σ 0 15 v) 0 13 sp) = if s_Ex_due (lv σ) = 0 then (if bk sp v (lv σ) = true then ((0 : Int32), unst sp (lv σ)) else (6, up2 (up2 (lv σ) 0 15 v) 0 13 sp)) else (0, ent (s_Ex_due (lv σ)) v sp (lv σ)) := by
  have hl : 0 ≤ lv σ 8 1 := by rw [lv8 σ 1 (by decide)]; exact hf
  have key : s_N_comeBack v (up2 (up2 σ 0 15 v) 0 13 sp) = if s_Ex_due (lv σ) = 0 then (if bk sp v (lv σ) = true then ((0 : Int32), unst sp (lv σ)) else (6, up2 (up2 (lv σ) 0 15 v) 0 13 sp)) else (0, ent (s_Ex_due (lv σ)) v sp (lv σ)) := by
    unfold s_N_comeBack
    rw [show s_Ex_leave ((up2 (up2 σ 0 15 v) 0 13 sp) 8 10) (up2 (up2 σ 0 15 v) 0 13 sp) = up2 (up2 (lv σ) 0 15 v) 0 13 sp from by rw [← lv_row0, ← lv_row0]; rfl]
    unfold ap1
    dsimp only
    rw [due_row0 _ (by rw [up2_row _ _ _ (by decide)]; exact hl), due_row0 _ hl, up2_self, ld_row0, ld_row0, up2_row _ (x := 8) _ _ (by decide), up2_row _ (x := 8) _ _ (by decide), up2_row _ (x := 8) _ _ (by decide)]
    by_cases d : s_Ex_due (lv σ) = 0
    · rw [if_pos d, if_pos d]
      unfold s_N_comeBack_106 s_N_comeBack_117 s_N_comeBack_120 ap1 bk
      have us : s_N_unstack sp (s_Me_load (sp + 28) (lv σ)) (up2 (up2 (lv σ) 0 15 v) 0 13 sp) = unst sp (lv σ) := by
        have := unst_over sp (up2 (lv σ) 0 15 v) 13 sp (by decide)
        rw [unst_over sp (lv σ) 15 v (by decide)] at this
        rw [← this]
        unfold unst
        rw [ld_row0, ld_row0]
      rw [us]
      by_cases h : s_Me_holdsFrame sp = true
      · rw [if_pos h, if_pos h]
        by_cases a : (s_Me_load (sp + 28) (lv σ)) &&& 15 = 1
        · rw [if_pos a, if_pos a, if_neg (by decide)]
        · rw [if_neg a, if_neg a]
          by_cases c0 : (s_Me_load (sp + 28) (lv σ)) &&& 15 = 0
          · (try simp only [if_pos c0])
            by_cases c1 : v = (-7)
            · (try simp only [if_pos c1])
              try rfl
            · (try simp only [if_neg c1])
              try rfl
          · (try simp only [if_neg c0])
            by_cases c1 : v = (-7)
            · (try simp only [if_pos c1])
              try rfl
            · (try simp only [if_neg c1])
              try rfl
      · rw [if_neg h, if_neg h, if_neg (by decide)]
    · rw [if_neg d, if_neg d]
      unfold ent
      rw [up2_comm (lv σ) v sp (Or.inr (by decide)), up2_comm _ v v (Or.inr (by decide)), up2_comm _ v _ (Or.inl (by decide)), enter_over]
  unfold s_N_land s_N_land_27
  rw [up2_row _ _ _ (by decide), up2_row _ _ _ (by decide), rd15, key, if_neg hr.1]
  by_cases a : v = (-7)
  · rw [if_pos a]; rfl
  · rw [if_neg a, if_pos (hr.2.elim (fun q => absurd q a) (fun q => q))]; rfl
