-- every instruction; fetching; faults; taking
def fl01 (σ : nS) : Prop := ∀ j, 3 ≤ j → j ≤ 7 → b01 (σ 8 j)
theorem i_all (th : Int32) (n : Nat) (hn : n < 65536) (σ : nS) (hf : 0 ≤ σ 8 1) (hb : fl01 σ) (hv : ev (σ 0 15)) (hc : ch1 σ) : s_Mo_does (nI n) (Pf th σ) = Tg th σ (Xc (nI n) σ) := by
  by_cases hx : (nI n) &&& 65415 = 18176
  · exact i_bx th n hn hx σ hf
  by_cases hp : n / 512 = 94
  · exact i_pop th n hn hp σ hf hv hc
  have id : ∀ F : Int32 × nS, ap2 F (fun r1 σ1 => (r1, σ1)) = F := fun _ => rfl
  have e9 : nI n >>> ((9 : Int32) &&& 31) = nI (n / 512) := by rw [w_sh hn 9 9 (by decide)]
  have e12 : nI n >>> ((12 : Int32) &&& 31) = nI (n / 4096) := by rw [w_sh hn 12 12 (by decide)]
  have e11 : nI n >>> ((11 : Int32) &&& 31) = nI (n / 2048) := by rw [w_sh hn 11 11 (by decide)]
  unfold s_Mo_does Xc
  rw [← tg_plain th σ (pe_exec n hn hp hx σ) hv, if_neg hx, e9, if_neg (show ¬ nI (n / 512) = 94 from ne_lit (m := 94) hp (by omega) (by decide)), e12, e11]
  by_cases h13 : n / 4096 = 13
  · rw [h13, if_pos (show nI 13 = 13 from rfl), id]
    exact q_cond th n hn h13 σ hf (hb 4 (by decide) (by decide)) (hb 5 (by decide) (by decide)) (hb 6 (by decide) (by decide)) (hb 7 (by decide) (by decide))
  rw [if_neg (show ¬ nI (n / 4096) = 13 from ne_lit (m := 13) h13 (by omega) (by decide))]
  by_cases h28 : n / 2048 = 28
  · rw [h28, if_pos (show nI 28 = 28 from rfl)]
    exact q_branch th n hn h28 σ
  rw [if_neg (show ¬ nI (n / 2048) = 28 from ne_lit (m := 28) h28 (by omega) (by decide))]
  have pl : s_Mo_plain (nI n) (Pf th σ) = M2 (Pf th) (s_N_execute (nI n) σ) := by
    have cl : n / 2048 = 0 ∨ n / 2048 = 1 ∨ n / 2048 = 2 ∨ n / 2048 = 3 ∨ n / 2048 = 4 ∨ n / 2048 = 5 ∨ n / 2048 = 6 ∨ n / 2048 = 7 ∨ n / 2048 = 8 ∨ n / 2048 = 9 ∨ n / 2048 = 10 ∨ n / 2048 = 11 ∨ n / 2048 = 12 ∨ n / 2048 = 13 ∨ n / 2048 = 14 ∨ n / 2048 = 15 ∨ n / 2048 = 16 ∨ n / 2048 = 17 ∨ n / 2048 = 18 ∨ n / 2048 = 19 ∨ n / 2048 = 20 ∨ n / 2048 = 21 ∨ n / 2048 = 22 ∨ n / 2048 = 23 ∨ n / 2048 = 24 ∨ n / 2048 = 25 ∨ n / 2048 = 29 ∨ n / 2048 = 30 ∨ n / 2048 = 31 := by omega
    rcases cl with c | c | c | c | c | c | c | c | c | c | c | c | c | c | c | c | c | c | c | c | c | c | c | c | c | c | c | c | c
    · exact pl_0 th n hn c σ
    · exact pl_1 th n hn c σ
    · exact pl_2 th n hn c σ
    · exact pl_3 th n hn c σ
    · exact pl_4 th n hn c σ
    · exact pl_5 th n hn c σ
    · exact pl_6 th n hn c σ
    · exact pl_7 th n hn c σ
    · exact pl_8 th n hn c σ hx
    · exact pl_9 th n hn c σ
    · exact pl_10 th n hn c σ
    · exact pl_11 th n hn c σ
    · exact pl_12 th n hn c σ
    · exact pl_13 th n hn c σ
    · exact pl_14 th n hn c σ
    · exact pl_15 th n hn c σ
    · exact pl_16 th n hn c σ
    · exact pl_17 th n hn c σ
    · exact pl_18 th n hn c σ
    · exact pl_19 th n hn c σ
    · exact pl_20 th n hn c σ
    · exact pl_21 th n hn c σ
    · exact pl_22 th n hn c σ hp hf (hb 3 (by decide) (by decide))
    · exact pl_23 th n hn c σ hp hf (hb 3 (by decide) (by decide))
    · exact pl_24 th n hn c σ
    · exact pl_25 th n hn c σ
    · exact pl_29 th n hn c σ
    · exact pl_30 th n hn c σ
    · exact pl_31 th n hn c σ
  rw [pl]
  exact tg_next th _
theorem Rf_row11 (th : Int32) {σ τ : nS} (h : ∀ k, k ≠ 11 → τ k = σ k) : Rf th τ = Rf th σ := by
  funext k
  unfold Rf
  by_cases b : k ≤ 7
  · rw [if_pos b, if_pos b, h k (by omega)]
  · rw [if_neg b, if_neg b, h 8 (by decide), h 9 (by decide), h 5 (by decide), h 10 (by decide)]
theorem upC_row (σ : nS) (a b k : Nat) (h : k ≠ b) : upC σ a b k = σ k := by
  unfold upC
  rw [if_neg h]
theorem upC_at (σ : nS) (a b j : Nat) : upC σ a b b j = if j < 16 then σ a j else σ b j := by
  unfold upC
  rw [if_pos rfl]
  unfold va_cpy
  by_cases h : j < 16
  · rw [if_pos h, if_pos (by omega)]
    simp
  · rw [if_neg h, if_neg (by omega)]
-- the half word
theorem half_0 (w : Int32) : byt w 0 ||| ((byt w 1) <<< ((8 : Int32) &&& 31)) = (ush w 0) &&& 65535 := by
  apply b_ext
  intro i hi
  have u : bt (ush w 0) i = bt w i := by
    have := b_ushr 0 (by decide) w i
    unfold ush
    rw [show (0 : Int32) = nI 0 from rfl, this, Nat.zero_add]
  rw [b_or, b_shl8 _ hi, byt_bt w 0 i (by decide) hi, byt_bt w 1 (i - 8) (by decide) (by omega), b_and, u]
  have t : ∀ i, i < 32 → bt 65535 i = decide (i < 16) := by decide
  rw [t i hi]
  by_cases h1 : i < 8
  · simp [h1, show ¬ 8 ≤ i by omega, show i < 16 by omega]
  · by_cases h2 : i < 16
    · simp [h1, h2, show 8 ≤ i by omega, show i - 8 < 8 by omega, show 8 + (i - 8) = i by omega]
    · simp [h1, h2, show 8 ≤ i by omega, show ¬ i - 8 < 8 by omega]
theorem half_2 (w : Int32) : byt w 2 ||| ((byt w 3) <<< ((8 : Int32) &&& 31)) = (ush w 16) &&& 65535 := by
  apply b_ext
  intro i hi
  have u : bt (ush w 16) i = bt w (16 + i) := by
    have := b_ushr 16 (by decide) w i
    unfold ush
    rw [show (16 : Int32) = nI 16 from rfl, this]
  rw [b_or, b_shl8 _ hi, byt_bt w 2 i (by decide) hi, byt_bt w 3 (i - 8) (by decide) (by omega), b_and, u]
  have t : ∀ i, i < 32 → bt 65535 i = decide (i < 16) := by decide
  rw [t i hi]
  by_cases h1 : i < 8
  · simp [h1, show ¬ 8 ≤ i by omega, show i < 16 by omega]
  · by_cases h2 : i < 16
    · simp [h1, h2, show 8 ≤ i by omega, show i - 8 < 8 by omega, show 24 + (i - 8) = 16 + i by omega]
    · simp [h1, h2, show 8 ≤ i by omega, show ¬ i - 8 < 8 by omega]
theorem q_half (th : Int32) (p : Nat) (hp : p < 1024) (he : p % 2 = 0) (σ : nS) : (Rf th σ 9 (nI p).toNatClampNeg) ||| ((Rf th σ 9 (nI p + 1).toNatClampNeg) <<< ((8 : Int32) &&& 31)) = s_Me_half (nI p) σ := by
  have e9 : ∀ j, Rf th σ 9 j = byt (σ 9 (j / 4)) (j % 4) := fun _ => rfl
  unfold s_Me_half s_Me_load
  rw [nI_clamp (by omega), show (1 : Int32) = nI 1 from rfl, nI_add, nI_clamp (by omega), e9, e9]
  have x4 : ((nI p >>> ((2 : Int32) &&& 31)) &&& 255).toNatClampNeg = p / 4 := by
    rw [pk_shrN (by omega) _ 2 (by decide), pk_andN (by omega) 8 (by decide), show p / 2 ^ 2 % 2 ^ 8 = p / 4 by omega, nI_clamp (by omega)]
  rw [x4, show (p + 1) / 4 = p / 4 by omega]
  have cl : p % 4 = 0 ∨ p % 4 = 2 := by omega
  have a2 : nI p &&& 2 = nI (p % 4) := by
    have q : nI p &&& 2 = (nI p &&& 3) &&& 2 := by rw [Int32.and_assoc]; rfl
    rw [q, pk_andN (by omega) 2 (by decide)]
    rcases cl with c | c
    · rw [show p % 2 ^ 2 = 0 by omega]; rfl
    · rw [show p % 2 ^ 2 = 2 by omega]; rfl
  rw [a2]
  rcases cl with c | c
  · rw [c, show (p + 1) % 4 = 1 by omega]
    exact half_0 _
  · rw [c, show (p + 1) % 4 = 3 by omega]
    exact half_2 _
theorem ev_nI {p : Nat} (hp : p < 2 ^ 31) (h : ev (nI p)) : p % 2 = 0 := by
  unfold ev at h
  rw [pk_andN (by omega) 1 (by decide)] at h
  have := (nI_eq (b := 0) (by omega) (by decide)).mp h
  omega
/-- fetching, and doing what was fetched -/
theorem q_fetched (th : Int32) (σ : nS) (hv : ev (σ 0 15)) : s_Mo_fetched (Rf th σ) = if s_N_fetchFault σ = 0 then s_Mo_does (s_Me_half (σ 0 15) σ) (Rf th σ) else (s_N_fetchFault σ, Rf th σ) := by
  have e0 : Rf th σ 0 = σ 0 := rfl
  unfold s_Mo_fetched s_N_fetchFault s_Me_holdsHalf s_Mo_fetched_19 s_Me_holdsHalf_21
  rw [e0, q_bars3 (Rf_gd th)]
  by_cases h : σ 0 15 < 0
  · rw [if_pos h, if_pos h]
    simp (decide := true) only [↓reduceIte]
  · rw [if_neg h, if_neg h]
    obtain ⟨p, hp, e⟩ := nI_of h
    rw [e] at hv ⊢
    have pe := ev_nI hp hv
    by_cases g : p < 1024
    · rw [if_pos (show nI p ≤ 1022 from nI_le (b := 1022) (by omega) (by decide)), if_neg (show ¬ (1024 : Int32) ≤ nI p from nI_ge (b := 1024) g (by decide)), if_pos (show nI p &&& 1 = 0 from hv)]
      simp (decide := true) only [↓reduceIte]
      by_cases b : s_Ar_bars (nI p) 1 true σ = true
      · rw [if_pos b, if_pos b, if_neg (by decide)]
      · rw [if_neg b, if_neg b, if_pos rfl, q_half th p g pe σ]
        rfl
    · rw [if_neg (show ¬ nI p ≤ 1022 from nI_ge (a := 1022) (by omega) (by omega)), if_pos (show (1024 : Int32) ≤ nI p from nI_le (a := 1024) (by omega) hp)]
      simp (decide := true) only [↓reduceIte]
theorem q_raise (th r : Int32) (σ : nS) (hf : 0 ≤ σ 8 1) : s_Mo_fault r (Rf th σ) = Rf th (s_N_raise r σ) := by
  have G := Rf_gd th
  unfold s_Mo_fault s_N_raise s_Mo_fault_48 s_N_raise_55
  rw [gd8 G σ (j := 14) (by decide), ← G.u8 _ _ _ (by decide)]
  generalize hτ : up2 σ 8 14 (σ 8 14 + 1) = τ
  have hf2 : 0 ≤ τ 8 1 := by rw [← hτ, up2_at, if_neg (by decide)]; exact hf
  rw [level_eq (G.1 τ) hf2, gr_eq (G.1 τ), gdk G τ (k := 1) (by decide) (by decide)]
  have y : (if s_Ex_level τ ≤ (-1) then up2 (Rf th τ) 8 11 1 else up2 (Rf th τ) 2 3 (bI true)) = Rf th (if s_Ex_level τ ≤ (-1) then up2 τ 8 11 1 else up2 τ 2 3 (bI true)) := by
    by_cases a : s_Ex_level τ ≤ (-1)
    · rw [if_pos a, if_pos a, G.u8 _ _ _ (by decide)]
    · rw [if_neg a, if_neg a, G.2.2.1 _ 2 _ _ (by decide) (by decide) (by decide)]
  by_cases a : τ 1 r.toNatClampNeg = 0
  · rw [if_pos a, if_pos a]; exact y
  · rw [if_neg a, if_neg a]
    by_cases b : s_Ex_level τ ≤ s_Ex_group r τ
    · rw [if_pos b, if_pos b]; exact y
    · rw [if_neg b, if_neg b, G.2.2.1 _ 2 _ _ (by decide) (by decide) (by decide)]
theorem q_status (th : Int32) (σ : nS) (o : Bool) : s_Mo_status o (Rf th σ) = (((s_Fl_packed σ) <<< ((28 : Int32) &&& 31)) ||| (if o = true then 512 else 0)) ||| (σ 8 10) := by
  have G := Rf_gd th
  have k : ∀ x : Int32, s_Mo_status_54 o x 0 (Rf th σ) = ((x ||| 0) ||| (if o = true then 512 else 0)) ||| (σ 8 10) ∧ s_Mo_status_54 o x 268435456 (Rf th σ) = ((x ||| 268435456) ||| (if o = true then 512 else 0)) ||| (σ 8 10) := by
    intro x
    unfold s_Mo_status_54 s_Mo_status_66
    rw [gd8 G σ (j := 10) (by decide)]
    cases o
    · exact ⟨rfl, rfl⟩
    · exact ⟨rfl, rfl⟩
  unfold s_Mo_status s_Mo_status_13 s_Mo_status_26 s_Mo_status_40 s_Fl_packed s_Fl_packed_13 s_Fl_packed_25 s_Fl_packed_38 s_Fl_packed_51
  rw [gd8 G σ (j := 4) (by decide), gd8 G σ (j := 5) (by decide), gd8 G σ (j := 6) (by decide), gd8 G σ (j := 7) (by decide)]
  by_cases a : σ 8 4 = 0 <;> by_cases b : σ 8 5 = 0 <;> by_cases c : σ 8 6 = 0 <;> by_cases d : σ 8 7 = 0 <;> simp only [a, b, c, d, if_true, if_false] <;> first | (rw [(k _).1]; rfl) | (rw [(k _).2]; rfl)
theorem Rf_to (th : Int32) (σ : nS) (v : Int32) : up2 (Rf th σ) 0 15 v = Rf th (up2 σ 0 15 v) := (Rf_upk th σ 0 15 v (by decide) (by decide)).symm
theorem sub36 (x : Int32) : x - 32 - 4 = x - 36 := by
  rw [Int32.sub_eq_add_neg, Int32.sub_eq_add_neg, Int32.add_assoc, Int32.sub_eq_add_neg]
  rfl
theorem sub32 (x : Int32) : x - 32 - 0 = x - 32 := by
  rw [Int32.sub_eq_add_neg (x - 32)]
  show x - 32 + 0 = _
  rw [Int32.add_zero]
theorem q_take (th : Int32) {e : Int32} (he : ∃ i : Nat, i ≤ 15 ∧ e = nI i) (σ : nS) : s_Mo_take e (Rf th σ) = Rf th (s_N_take e σ) := by
  have G := Rf_gd th
  have Gw := Rf_gm th
  have H := Rf_g0 th
  have e0 : ∀ τ : nS, Rf th τ 0 = τ 0 := fun _ => rfl
  have lst : ∀ (x : Int32) (τ : nS), s_Mo_take_170 e x (Rf th τ) = Rf th (s_N_take_165 e x τ) := by
    intro x τ
    unfold s_Mo_take_170 s_N_take_165 ap1
    dsimp only
    rw [← H _ 14 _ (by decide), q_enter G (Rf_to th) he, gd8 G _ (j := 12) (by decide), ← G.u8 _ _ _ (by decide)]
    refine congrArg (Rf th) ?_
    generalize up2 τ 0 14 x = υ
    unfold s_N_enter
    have ld : ∀ (a : Int32) (v : Int32), s_Me_load a (up2 (up2 (up2 (up2 υ 8 12 (υ 8 12 + 1)) 3 e.toNatClampNeg (bI true)) 2 e.toNatClampNeg (bI false)) 8 10 e) = s_Me_load a (up2 (up2 (up2 υ 3 e.toNatClampNeg (bI true)) 2 e.toNatClampNeg (bI false)) 8 10 e) := by
      intro a v
      unfold s_Me_load
      rw [up2_row _ _ _ (by decide), up2_row _ _ _ (by decide), up2_row _ _ _ (by decide), up2_row _ _ _ (by decide), up2_row _ _ _ (by decide), up2_row _ _ _ (by decide), up2_row _ _ _ (by decide)]
    rw [ld _ 0]
    generalize s_N_even (s_Me_load (4 * e) (up2 (up2 (up2 υ 3 e.toNatClampNeg (bI true)) 2 e.toNatClampNeg (bI false)) 8 10 e)) = z
    rw [show (up2 (up2 (up2 (up2 υ 3 e.toNatClampNeg (bI true)) 2 e.toNatClampNeg (bI false)) 8 10 e) 0 15 z) 8 12 = υ 8 12 from by rw [up2_row _ _ _ (by decide), up2_at, if_neg (by decide), up2_row _ _ _ (by decide), up2_row _ _ _ (by decide)]]
    generalize υ 8 12 + 1 = q
    rw [up2_comm (k := 8) (j := 12) υ q _ (Or.inl (by decide)), up2_comm (k := 8) (j := 12) _ q _ (Or.inl (by decide)), up2_comm (k := 8) (j := 12) _ q _ (Or.inr (by decide)), up2_comm (k := 8) (j := 12) _ q _ (Or.inl (by decide))]
  have bod : ∀ (o : Bool) (sp : Int32), s_Me_holdsFrame sp = true → s_Mo_take_55_0 e o sp (Rf th σ) = Rf th (s_N_take_60_0 e o sp σ) := by
    intro o sp hs
    have w : ∀ (k : Nat) (c : Int32), k < 8 → c = nI (4 * k) → wok (sp + c) := fun k c h q => frame_wok hs k h c q
    unfold s_Mo_take_55_0 s_Mo_take_55_1 s_Mo_take_55_2 s_Mo_take_55_3 s_Mo_take_55_4 s_N_take_60_0 s_N_take_60_1 s_N_take_60_2 s_N_take_60_3 s_N_take_60_4 s_N_take_60_5 s_N_take_60_6 s_N_take_60_7 s_N_take_128 ap1
    dsimp only
    rw [e0, q_store G Gw (w 0 0 (by decide) rfl), e0, q_store G Gw (w 1 4 (by decide) rfl), e0, q_store G Gw (w 2 8 (by decide) rfl), e0, q_store G Gw (w 3 12 (by decide) rfl), e0, q_store G Gw (w 4 16 (by decide) rfl), e0, q_store G Gw (w 5 20 (by decide) rfl), e0, q_store G Gw (w 6 24 (by decide) rfl), q_status, q_store G Gw (w 7 28 (by decide) rfl), up2_row _ (x := 8) _ _ (by decide), gd8 G _ (j := 10) (by decide), ← H _ 13 _ (by decide), lst, lst]
    generalize s_Me_store (sp + 24) _ _ = τ
    have fin : ∀ st : Int32, (if s_Me_store (sp + 28) st τ 8 10 = 0 then Rf th (s_N_take_165 e (-7) (up2 (s_Me_store (sp + 28) st τ) 0 13 sp)) else Rf th (s_N_take_165 e (-15) (up2 (s_Me_store (sp + 28) st τ) 0 13 sp))) = Rf th (if (up2 (s_Me_store (sp + 28) st τ) 0 13 sp) 8 10 = 0 then (s_N_take_165 e (-7) (up2 (s_Me_store (sp + 28) st τ) 0 13 sp)) else (s_N_take_165 e (-15) (up2 (s_Me_store (sp + 28) st τ) 0 13 sp))) := by
      intro st
      rw [up2_row _ (x := 8) _ _ (by decide)]
      by_cases a : s_Me_store (sp + 28) st τ 8 10 = 0
      · rw [if_pos a, if_pos a]
      · rw [if_neg a, if_neg a]
    cases o
    · exact fin _
    · exact fin _
  unfold s_Mo_take s_N_take s_Mo_take_18 s_N_take_18 s_Mo_take_37 s_N_take_38
  rw [e0, sub36, sub32, q_isFrame, q_isFrame]
  have two : ∀ (o : Bool) (sp : Int32), (if s_Me_holdsFrame sp = true then s_Mo_take_55_0 e o sp (Rf th σ) else up2 (Rf th σ) 8 11 2) = Rf th (if s_Me_holdsFrame sp = true then s_N_take_60_0 e o sp σ else up2 σ 8 11 2) := by
    intro o sp
    by_cases h : s_Me_holdsFrame sp = true
    · rw [if_pos h, if_pos h]; exact bod o sp h
    · rw [if_neg h, if_neg h, G.u8 _ _ _ (by decide)]
  by_cases h : σ 0 13 &&& 7 = 0
  · rw [if_pos h, if_pos h]; exact two false _
  · rw [if_neg h, if_neg h]; exact two true _
