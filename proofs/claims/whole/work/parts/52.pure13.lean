-- what holds between steps; a step
def Iw (c : Nat) (σ : nS) : Prop := 0 ≤ σ 8 1 ∧ vp_in (σ 8 10) 16 ∧ fl01 σ ∧ ∃ m : Nat, m ≤ c ∧ σ 8 13 = nI m
def Iv (c : Nat) (σ : nS) : Prop := ev (σ 0 15) ∧ Iw c σ
theorem Iw_row {c : Nat} {σ τ : nS} (h : Iw c σ) (e1 : τ 8 1 = σ 8 1) (e10 : τ 8 10 = σ 8 10) (ef : ∀ j, 3 ≤ j → j ≤ 7 → τ 8 j = σ 8 j) (e13 : τ 8 13 = σ 8 13) : Iw c τ := by
  obtain ⟨h1, h2, h3, m, hm, h4⟩ := h
  exact ⟨by rw [e1]; exact h1, by rw [e10]; exact h2, fun j a b => by rw [ef j a b]; exact h3 j a b, m, hm, by rw [e13]; exact h4⟩
theorem Iw_mono {c d : Nat} {σ : nS} (h : Iw c σ) (hd : c ≤ d) : Iw d σ := by
  obtain ⟨h1, h2, h3, m, hm, h4⟩ := h
  exact ⟨h1, h2, h3, m, by omega, h4⟩
theorem Iw_K {c : Nat} {σ τ : nS} (k : K σ τ) (h : Iw c σ) : Iw c τ := by
  obtain ⟨h1, h2, h3, m, hm, h4⟩ := h
  exact ⟨by rw [k.2.1 1 (by decide)]; exact h1, by rw [k.2.1 10 (by decide)]; exact h2, fun j a b => k.2.2.1 j a b (h3 j a b), m, hm, by rw [k.2.1 13 (by decide)]; exact h4⟩
theorem Iw_u {c : Nat} {σ : nS} (h : Iw c σ) (k j : Nat) (v : Int32) (hk : k ≠ 8 ∨ (8 ≤ j ∧ j ≠ 10 ∧ j ≠ 13)) : Iw c (up2 σ k j v) := by
  have e : ∀ i, i = 1 ∨ i = 10 ∨ i = 13 ∨ (3 ≤ i ∧ i ≤ 7) → up2 σ k j v 8 i = σ 8 i := fun i hi => by rw [up2_at, if_neg (fun q => by omega)]
  exact Iw_row h (e 1 (by decide)) (e 10 (by decide)) (fun i a b => e i (by omega)) (e 13 (by decide))
theorem vin16 {i : Nat} (h : i < 16) : vp_in (nI i) 16 := by
  intro q
  rcases q with q | q
  · exact absurd q (nI_nlt (b := 0) (by omega) (by omega))
  · rw [nI_clamp (by omega)] at q; omega
theorem vin_15 (x : Int32) : vp_in (x &&& 15) 16 := by
  obtain ⟨n, hn, e⟩ := n4_15 x
  rw [e]
  exact vin16 hn
theorem Iv_enter {c : Nat} {σ : nS} (h : Iw c σ) {e : Int32} (he : ∃ i : Nat, i ≤ 15 ∧ e = nI i) : Iv c (s_N_enter e σ) := by
  obtain ⟨i, hi, rfl⟩ := he
  obtain ⟨h1, h2, h3, m, hm, h4⟩ := h
  have r : ∀ j, j ≠ 10 → s_N_enter (nI i) σ 8 j = σ 8 j := by
    intro j hj
    unfold s_N_enter
    rw [up2_row _ _ _ (by decide), up2_at, if_neg (fun q => hj q.2), up2_row _ _ _ (by decide), up2_row _ _ _ (by decide)]
  have r10 : s_N_enter (nI i) σ 8 10 = nI i := by
    unfold s_N_enter
    rw [up2_row _ _ _ (by decide), up2_self]
  refine ⟨?_, by rw [r 1 (by decide)]; exact h1, by rw [r10]; exact vin16 (by omega), fun j a b => by rw [r j (by omega)]; exact h3 j a b, m, hm, by rw [r 13 (by decide)]; exact h4⟩
  unfold s_N_enter
  rw [up2_self]
  exact ev_even _
theorem Iw_lv {c : Nat} {σ : nS} (h : Iw c σ) : Iw c (lv σ) := by
  obtain ⟨h1, h2, h3, m, hm, h4⟩ := h
  refine ⟨by rw [lv8 σ 1 (by decide)]; exact h1, by rw [lv8 σ 10 (by decide)]; exact h2, fun j a b => ?_, m, hm, by rw [lv8 σ 13 (by decide)]; exact h4⟩
  by_cases j3 : j = 3
  · subst j3
    unfold lv s_Ex_leave
    by_cases q : σ 8 10 = 2
    · rw [if_pos q, up2_row _ _ _ (by decide)]; exact h3 3 a b
    · rw [if_neg q, up2_self]; exact b01_b false
  · rw [lv8 σ j j3]; exact h3 j a b
theorem Iv_ent {c : Nat} {σ : nS} (h : Iw c σ) {e : Int32} (he : ∃ i : Nat, i ≤ 15 ∧ e = nI i) (v sp : Int32) : Iv (c + 1) (ent e v sp σ) := by
  unfold ent
  refine Iv_enter ?_ he
  obtain ⟨h1, h2, h3, m, hm, h4⟩ := h
  have r : ∀ j, j ≠ 13 → (up2 (up2 (up2 σ 0 13 sp) 0 14 v) 8 13 (σ 8 13 + 1)) 8 j = σ 8 j := by
    intro j hj
    rw [up2_at, if_neg (fun q => hj q.2), up2_row _ _ _ (by decide), up2_row _ _ _ (by decide)]
  refine ⟨by rw [r 1 (by decide)]; exact h1, by rw [r 10 (by decide)]; exact h2, fun j a b => by rw [r j (by omega)]; exact h3 j a b, m + 1, by omega, ?_⟩
  rw [up2_self, h4, show (1 : Int32) = nI 1 from rfl, nI_add]
theorem unpack8 (f : Int32) (τ : nS) : (∀ j, j < 4 ∨ 7 < j → s_Fl_unpack f τ 8 j = τ 8 j) ∧ (∀ j, 4 ≤ j → j ≤ 7 → b01 (s_Fl_unpack f τ 8 j)) ∧ ∀ k, k ≠ 8 → s_Fl_unpack f τ k = τ k := by
  have main : ∀ a b c d : Bool, (∀ j, j < 4 ∨ 7 < j → (up2 (up2 (up2 (up2 τ 8 4 (bI a)) 8 5 (bI b)) 8 6 (bI c)) 8 7 (bI d)) 8 j = τ 8 j) ∧ (∀ j, 4 ≤ j → j ≤ 7 → b01 ((up2 (up2 (up2 (up2 τ 8 4 (bI a)) 8 5 (bI b)) 8 6 (bI c)) 8 7 (bI d)) 8 j)) ∧ ∀ k, k ≠ 8 → (up2 (up2 (up2 (up2 τ 8 4 (bI a)) 8 5 (bI b)) 8 6 (bI c)) 8 7 (bI d)) k = τ k := by
    intro a b c d
    refine ⟨fun j hj => ?_, fun j h4 h7 => ?_, fun k hk => ?_⟩
    · rw [up2_at, if_neg (fun q => by omega), up2_at, if_neg (fun q => by omega), up2_at, if_neg (fun q => by omega), up2_at, if_neg (fun q => by omega)]
    · have : j = 4 ∨ j = 5 ∨ j = 6 ∨ j = 7 := by omega
      rcases this with rfl | rfl | rfl | rfl
      · rw [up2_at, if_neg (by decide), up2_at, if_neg (by decide), up2_at, if_neg (by decide), up2_self]; exact b01_b a
      · rw [up2_at, if_neg (by decide), up2_at, if_neg (by decide), up2_self]; exact b01_b b
      · rw [up2_at, if_neg (by decide), up2_self]; exact b01_b c
      · rw [up2_self]; exact b01_b d
    · rw [up2_row _ _ _ hk, up2_row _ _ _ hk, up2_row _ _ _ hk, up2_row _ _ _ hk]
  unfold s_Fl_unpack s_Fl_unpack_13 s_Fl_unpack_28 s_Fl_unpack_43 s_Fl_unpack_58
  by_cases a : f &&& 8 = 0 <;> by_cases b : f &&& 4 = 0 <;> by_cases c : f &&& 2 = 0 <;> by_cases d : f &&& 1 = 0 <;> simp only [a, b, c, d, if_true, if_false] <;> exact main _ _ _ _
theorem Iv_unst {c : Nat} {σ : nS} (h : Iw c σ) (sp : Int32) : Iv c (unst sp σ) := by
  obtain ⟨h1, h2, h3, m, hm, h4⟩ := h
  unfold unst
  rw [unst_RG]
  generalize s_Me_load (sp + 28) σ = st
  have u := unpack8 (ush st 28) (RG sp st σ)
  have g : RG sp st σ 8 = σ 8 := by
    unfold RG
    rw [up2_row _ _ _ (by decide), up2_row _ _ _ (by decide), up2_row _ _ _ (by decide), up2_row _ _ _ (by decide), up2_row _ _ _ (by decide), up2_row _ _ _ (by decide), up2_row _ _ _ (by decide), up2_row _ _ _ (by decide)]
  have r : ∀ j, j ≠ 10 → (up2 (s_Fl_unpack (ush st 28) (RG sp st σ)) 8 10 (st &&& 15)) 8 j = s_Fl_unpack (ush st 28) (RG sp st σ) 8 j := fun j hj => by rw [up2_at, if_neg (fun q => hj q.2)]
  refine ⟨?_, ?_, ?_, ?_, m, hm, ?_⟩
  · rw [up2_row _ _ _ (by decide), u.2.2 0 (by decide)]
    unfold RG
    rw [up2_at, if_neg (by decide), up2_self]
    exact ev_even _
  · rw [r 1 (by decide), u.1 1 (by decide), g]; exact h1
  · rw [up2_self]; exact vin_15 st
  · intro j a b
    rw [r j (by omega)]
    by_cases q : j = 3
    · rw [u.1 j (by omega), g]; exact h3 j a b
    · exact u.2.1 j (by omega) b
  · rw [r 13 (by decide), u.1 13 (by decide), g]; exact h4
/-- what landing leaves -/
theorem lp {c : Nat} (σ : nS) (h : Iw c σ) : ((s_N_land σ).1 = 0 ∧ Iv (c + 1) (s_N_land σ).2) ∨ ((s_N_land σ).1 = 6 ∧ (s_N_land σ).2 11 = σ 11 ∧ (∀ j, 16 ≤ j → (s_N_land σ).2 0 j = σ 0 j) ∧ Iw (c + 1) (s_N_land σ).2) := by
  have e : σ = up2 (up2 σ 0 15 (σ 0 15)) 0 13 (σ 0 13) := by
    rw [up2_id (σ := σ) rfl, up2_id (σ := σ) rfl]
  generalize hv : σ 0 15 = v at e
  generalize hs : σ 0 13 = sp at e
  by_cases hr : rt v σ
  · have l : s_N_land σ = if s_Ex_due (lv σ) = 0 then (if bk sp v (lv σ) = true then ((0 : Int32), unst sp (lv σ)) else (6, up2 (up2 (lv σ) 0 15 v) 0 13 sp)) else (0, ent (s_Ex_due (lv σ)) v sp (lv σ)) := by
      have := n_land1 σ v sp h.1 hr
      rw [← e] at this
      exact this
    rw [l]
    by_cases d : s_Ex_due (lv σ) = 0
    · rw [if_pos d]
      by_cases b : bk sp v (lv σ) = true
      · rw [if_pos b]
        have z := Iv_unst (Iw_lv h) sp
        exact Or.inl ⟨rfl, z.1, Iw_mono z.2 (by omega)⟩
      · rw [if_neg b]
        refine Or.inr ⟨rfl, ?_, fun j hj => ?_, Iw_mono (Iw_u (Iw_u (Iw_lv h) 0 15 v (Or.inl (by decide))) 0 13 sp (Or.inl (by decide))) (by omega)⟩
        · show up2 (up2 (lv σ) 0 15 v) 0 13 sp 11 = σ 11
          rw [up2_row _ _ _ (by decide), up2_row _ _ _ (by decide), lv_row σ 11 (by decide) (by decide)]
        · show up2 (up2 (lv σ) 0 15 v) 0 13 sp 0 j = σ 0 j
          rw [up2_at, if_neg (fun q => by omega), up2_at, if_neg (fun q => by omega), lv_row σ 0 (by decide) (by decide)]
    · rw [if_neg d]
      exact Or.inl ⟨rfl, Iv_ent (Iw_lv h) (due_nI _) v sp⟩
  · have l : s_N_land σ = (0, up2 (up2 σ 0 13 sp) 0 15 (s_N_even v)) := by
      have := n_land0 σ v sp hr
      rw [← e] at this
      exact this
    rw [l]
    refine Or.inl ⟨rfl, ?_, Iw_mono (Iw_u (Iw_u h 0 13 sp (Or.inl (by decide))) 0 15 _ (Or.inl (by decide))) (by omega)⟩
    show ev (up2 (up2 σ 0 13 sp) 0 15 (s_N_even v) 0 15)
    rw [up2_self]
    exact ev_even v
def PK (σ : nS) (F : Int32 × nS) : Prop := (F.1 = 0 ∧ K σ F.2) ∨ ((F.1 = 4 ∨ F.1 = 5 ∨ F.1 = 6) ∧ F.2 = σ)
theorem PK_of {σ : nS} {F : Int32 × nS} (h : PE σ F) : PK σ F := h.elim (fun q => Or.inl ⟨q.1, q.2.1⟩) Or.inr
theorem K_ldr (l : Int32) (σ0 : nS) : ∀ m, m ≤ 8 → ∀ a σ, K σ0 σ → K σ0 (ldr l m a σ)
  | 0, _, _, _, h => h
  | m + 1, hm, a, σ, h => by
    show K σ0 (if ((l >>> (nI (7 - m) &&& 31)) &&& 1) = 0 then ldr l m a σ else ldr l m (a + 4) (up2 σ 0 (7 - m) (s_Me_load a σ)))
    by_cases q : ((l >>> (nI (7 - m) &&& 31)) &&& 1) = 0
    · rw [if_pos q]; exact K_ldr l σ0 m (by omega) a σ h
    · rw [if_neg q]; exact K_ldr l σ0 m (by omega) _ _ (K_u0 h _ (by omega) _)
theorem pk_pop (l : Int32) (σ : nS) : PK σ (s_N_pop l σ) := by
  unfold s_N_pop
  by_cases h : s_In_bitCount l = 0
  · rw [if_pos h]; exact PK_of (PE_of (PP_6 σ))
  · rw [if_neg h]
    by_cases q : s_N_faultAlong (σ 0 13) (s_In_bitCount l) 1 σ = 0
    · rw [if_pos q, np_0]
      unfold s_N_pop_40_8 s_N_pop_86_8 s_N_pop_74_8 s_N_pop_86_8 s_N_pop_40_9
      by_cases b : ((l >>> ((8 : Int32) &&& 31)) &&& 1) = 0
      · rw [if_pos b]; exact Or.inl ⟨rfl, K_u0 (K_ldr l σ 8 (by decide) _ _ (K_refl σ)) 13 (by decide) _⟩
      · rw [if_neg b]; exact Or.inl ⟨rfl, K_u0 (K_u0 (K_ldr l σ 8 (by decide) _ _ (K_refl σ)) 15 (by decide) _) 13 (by decide) _⟩
    · rw [if_neg q]
      rcases fa_range (σ 0 13) (s_In_bitCount l) 1 σ with e | e | e
      · exact absurd e q
      · exact Or.inr ⟨Or.inl e, rfl⟩
      · exact Or.inr ⟨Or.inr (Or.inl e), rfl⟩
theorem pk_exec (n : Nat) (hn : n < 65536) (σ : nS) : PK σ (s_N_execute (nI n) σ) := by
  by_cases hp : n / 512 = 94
  · rw [pop_exec n hn hp]; exact pk_pop _ σ
  by_cases hx : (nI n) &&& 65415 = 18176
  · obtain ⟨h71, h135⟩ := bx_inv n hn hx
    have e12 : nI n >>> ((12 : Int32) &&& 31) = 4 := by rw [w_sh hn 12 12 (by decide), show n / 2 ^ 12 = 4 by omega]; rfl
    have e10 : nI n >>> ((10 : Int32) &&& 31) = 17 := by rw [w_sh hn 10 10 (by decide), show n / 2 ^ 10 = 17 by omega]; rfl
    have e8 : nI n >>> ((8 : Int32) &&& 31) = 71 := by rw [w_sh hn 8 8 (by decide), show n / 2 ^ 8 = 71 by omega]; rfl
    unfold s_N_execute s_N_copyOrBranch s_N_branchTo s_N_branchTo_21
    rw [e12, e10, e8, h135]
    simp (decide := true) only [↓reduceIte]
    by_cases m : (nI n >>> ((3 : Int32) &&& 31)) &&& 15 = 15
    · rw [if_pos m]; exact PK_of (PE_of (PP_6 σ))
    · rw [if_neg m]; exact Or.inl ⟨rfl, K_u0 (K_refl σ) 15 (by decide) _⟩
  · exact PK_of (pe_exec n hn hp hx σ)
def XP (c : Nat) (σ : nS) (F : Int32 × nS) : Prop := (F.1 = 0 ∧ Iv (c + 1) F.2) ∨ ((F.1 = 4 ∨ F.1 = 5 ∨ F.1 = 6) ∧ F.2 11 = σ 11 ∧ (∀ j, 16 ≤ j → F.2 0 j = σ 0 j) ∧ Iw (c + 1) F.2)
theorem xp_all (c n : Nat) (hn : n < 65536) (σ : nS) (h : Iw c σ) : XP c σ (Xc (nI n) σ) := by
  unfold Xc
  have p := pk_exec n hn σ
  generalize s_N_execute (nI n) σ = F at p
  obtain ⟨r, τ⟩ := F
  rw [ap2_mk r τ]
  rcases p with ⟨h0, hk⟩ | ⟨hr, hs⟩
  · have h0 : r = 0 := h0
    have hk : K σ τ := hk
    rw [if_pos h0]
    rcases lp τ (Iw_K hk h) with z | ⟨z1, z2, z3, z4⟩
    · exact Or.inl z
    · exact Or.inr ⟨Or.inr (Or.inr z1), z2.trans (hk.1 11 (by decide) (by decide) (by decide) (by decide)), fun j hj => (z3 j hj).trans (hk.2.2.2 j hj), z4⟩
  · have hs : τ = σ := hs
    have hr : r = 4 ∨ r = 5 ∨ r = 6 := hr
    have hn : ¬ r = 0 := by rcases hr with rfl | rfl | rfl <;> decide
    rw [if_neg hn, hs]
    exact Or.inr ⟨hr, rfl, fun _ _ => rfl, Iw_mono h (by omega)⟩
theorem Iv_take {c : Nat} {σ : nS} (h : Iv c σ) {e : Int32} (he : ∃ i : Nat, i ≤ 15 ∧ e = nI i) : Iv c (s_N_take e σ) := by
  have st : ∀ (τ : nS) (a x : Int32), Iw c τ → Iw c (s_Me_store a x τ) := fun τ a x q => Iw_u q 9 _ _ (Or.inl (by decide))
  have z1 : ∀ (x : Int32) (τ : nS), Iw c τ → Iv c (s_N_take_165 e x τ) := fun x τ q => Iv_enter (Iw_u (Iw_u q 0 14 x (Or.inl (by decide))) 8 12 _ (Or.inr (by decide))) he
  have z2 : ∀ (sp a b d : Int32) (τ : nS), Iw c τ → Iv c (s_N_take_128 e sp a b d τ) := by
    intro sp a b d τ q
    unfold s_N_take_128 ap1
    dsimp only
    have y := Iw_u (st τ a ((b ||| d) ||| τ 8 10) q) 0 13 sp (Or.inl (by decide))
    by_cases g : up2 (s_Me_store a (b ||| d ||| τ 8 10) τ) 0 13 sp 8 10 = 0
    · rw [if_pos g]; exact z1 _ _ y
    · rw [if_neg g]; exact z1 _ _ y
  have z3 : ∀ (o : Bool) (sp : Int32) (τ : nS), Iw c τ → Iv c (s_N_take_60_7 e o sp τ) := by
    intro o sp τ q
    unfold s_N_take_60_7
    cases o
    · exact z2 _ _ _ _ _ q
    · exact z2 _ _ _ _ _ q
  have z4 : ∀ (o : Bool) (sp : Int32), Iv c (s_N_take_60_0 e o sp σ) := fun o sp => z3 o sp _ (st _ _ _ (st _ _ _ (st _ _ _ (st _ _ _ (st _ _ _ (st _ _ _ (st _ _ _ h.2)))))))
  have z5 : ∀ (o : Bool) (a b : Int32), Iv c (s_N_take_38 e o a b σ) := by
    intro o a b
    unfold s_N_take_38
    by_cases g : s_Me_holdsFrame (a - b) = true
    · rw [if_pos g]; exact z4 o _
    · rw [if_neg g]
      refine ⟨?_, Iw_u h.2 8 11 2 (Or.inr (by decide))⟩
      rw [up2_row _ _ _ (by decide)]; exact h.1
  unfold s_N_take s_N_take_18
  by_cases g : σ 0 13 &&& 7 = 0
  · rw [if_pos g]; exact z5 _ _ _
  · rw [if_neg g]; exact z5 _ _ _
theorem Iv_raise {c : Nat} {σ : nS} (h : Iv c σ) (r : Int32) : Iv c (s_N_raise r σ) := by
  unfold s_N_raise s_N_raise_55
  have h1 : Iv c (up2 σ 8 14 (σ 8 14 + 1)) := ⟨by rw [up2_row _ _ _ (by decide)]; exact h.1, Iw_u h.2 8 14 _ (Or.inr (by decide))⟩
  generalize up2 σ 8 14 (σ 8 14 + 1) = τ at h1
  have a1 : Iv c (up2 τ 8 11 1) := ⟨by rw [up2_row _ _ _ (by decide)]; exact h1.1, Iw_u h1.2 8 11 _ (Or.inr (by decide))⟩
  have a2 : ∀ j v, Iv c (up2 τ 2 j v) := fun j v => ⟨by rw [up2_row _ _ _ (by decide)]; exact h1.1, Iw_u h1.2 2 j v (Or.inl (by decide))⟩
  have a3 : Iv c (if s_Ex_level τ ≤ (-1) then up2 τ 8 11 1 else up2 τ 2 3 (bI true)) := by
    by_cases q : s_Ex_level τ ≤ (-1)
    · rw [if_pos q]; exact a1
    · rw [if_neg q]; exact a2 _ _
  by_cases q : τ 1 r.toNatClampNeg = 0
  · rw [if_pos q]; exact a3
  · rw [if_neg q]
    by_cases p : s_Ex_level τ ≤ s_Ex_group r τ
    · rw [if_pos p]; exact a3
    · rw [if_neg p]; exact a2 _ _
theorem ff_range (σ : nS) : s_N_fetchFault σ = 0 ∨ s_N_fetchFault σ = 4 ∨ s_N_fetchFault σ = 5 := by
  unfold s_N_fetchFault
  by_cases a : s_Me_holdsHalf (σ 0 15) = true
  · rw [if_pos a]
    by_cases b : s_Ar_bars (σ 0 15) 1 true σ = true
    · rw [if_pos b]; exact Or.inr (Or.inl rfl)
    · rw [if_neg b]; exact Or.inl rfl
  · rw [if_neg a]; exact Or.inr (Or.inr rfl)
theorem upC_back (σ : nS) : upC (upC σ 0 11) 11 0 = upC σ 0 11 := by
  funext k j
  by_cases h : k = 0
  · subst h
    rw [upC_at, upC_at, upC_row σ 0 11 0 (by decide)]
    by_cases g : j < 16
    · rw [if_pos g, if_pos g]
    · rw [if_neg g]
  · rw [upC_row _ 11 0 k h]
theorem Pf_fetch (th : Int32) (σ : nS) : Pf th (up2 σ 0 15 (σ 0 15 + 2)) = Rf th σ := by
  rw [Pf_u15]
  unfold Pf
  have e : σ 0 15 + 2 - 2 = σ 0 15 := by
    rw [Int32.sub_eq_add_neg, Int32.add_assoc]
    show σ 0 15 + 0 = _
    rw [Int32.add_zero]
  rw [up2_same, e]
  exact up2_id rfl
theorem step_split (r : Int32) (τ : nS) : s_N_step_72 r τ = ap2 (if r = 0 then s_N_land τ else (r, τ)) fun r σ => s_N_step_81 r σ := by
  unfold s_N_step_72
  by_cases h : r = 0
  · rw [if_pos h, if_pos h]
  · rw [if_neg h, if_neg h]
    rfl
theorem ch_ok {c : Nat} {σ : nS} (h : Iw c σ) (hc : c + 1 < 2 ^ 31) : ch1 σ := by
  obtain ⟨_, _, _, m, hm, e⟩ := h
  unfold ch1
  rw [e, show (1 : Int32) = nI 1 from rfl, nI_add]
  exact nI_ge (by omega) (by omega)
theorem q_step21 (th : Int32) (c : Nat) (σ : nS) (h : Iv c σ) (hc : c + 1 < 2 ^ 31) : s_Mo_step_40 (Rf th σ) = Rf th (s_N_step_21 σ) ∧ Iv (c + 1) (s_N_step_21 σ) := by
  have hf := h.2.1
  unfold s_Mo_step_40 s_N_step_21
  rw [show s_Mo_due (Rf th σ) = s_Ex_due σ from due_eq (Rf_relC th σ) hf]
  by_cases d : s_Ex_due σ = 0
  · rw [if_pos d, if_pos (by rw [d]; decide)]
    have er : Rf th (upC σ 0 11) = Rf th σ := Rf_row11 th (fun k hk => upC_row σ 0 11 k hk)
    rw [← er]
    have h0 : Iv c (upC σ 0 11) := by
      refine ⟨?_, Iw_row h.2 ?_ ?_ (fun j a b => ?_) ?_⟩
      · rw [upC_row σ 0 11 0 (by decide)]; exact h.1
      · rw [upC_row σ 0 11 8 (by decide)]
      · rw [upC_row σ 0 11 8 (by decide)]
      · rw [upC_row σ 0 11 8 (by decide)]
      · rw [upC_row σ 0 11 8 (by decide)]
    have hb := upC_back σ
    have hcp : ∀ j, j < 16 → upC σ 0 11 11 j = upC σ 0 11 0 j := fun j hj => by rw [upC_at, if_pos hj, upC_row σ 0 11 0 (by decide)]
    generalize upC σ 0 11 = ρ at *
    rw [q_fetched th ρ h0.1]
    by_cases f : s_N_fetchFault ρ = 0
    · rw [if_pos f, if_pos f]
      unfold s_N_fetch
      rw [ap2_mk, ap2_mk]
      have eh : s_Me_half (ρ 0 15) (up2 ρ 0 15 (ρ 0 15 + 2)) = s_Me_half (ρ 0 15) ρ := by
        unfold s_Me_half
        rw [ld_row0]
      rw [eh]
      obtain ⟨n, hn, en⟩ : ∃ n : Nat, n < 65536 ∧ s_Me_half (ρ 0 15) ρ = nI n := pk_andE _ 16 (by decide)
      rw [en, ← Pf_fetch th ρ]
      have h1 : Iv c (up2 ρ 0 15 (ρ 0 15 + 2)) := by
        refine ⟨?_, Iw_u h0.2 0 15 _ (Or.inl (by decide))⟩
        rw [up2_self]
        exact ev_add h0.1 (show (2 : Int32) &&& 1 = 0 by decide)
      have r11 : (up2 ρ 0 15 (ρ 0 15 + 2)) 11 = ρ 11 := up2_row _ _ _ (by decide)
      have r16 : ∀ j, 16 ≤ j → (up2 ρ 0 15 (ρ 0 15 + 2)) 0 j = ρ 0 j := fun j hj => by rw [up2_at, if_neg (fun q => by omega)]
      have p0 : Pf th (up2 ρ 0 15 (ρ 0 15 + 2)) 0 = ρ 0 := by rw [Pf_fetch]; rfl
      generalize up2 ρ 0 15 (ρ 0 15 + 2) = υ at *
      rw [i_all th n hn υ h1.2.1 h1.2.2.2.1 h1.1 (ch_ok h1.2 hc)]
      have xp := xp_all c n hn υ h1.2
      have ex : (ap2 (s_N_execute (nI n) υ) fun r2 σ2 => s_N_step_72 r2 σ2) = ap2 (Xc (nI n) υ) fun r σ => s_N_step_81 r σ := by
        unfold Xc
        generalize s_N_execute (nI n) υ = F
        obtain ⟨r, τ⟩ := F
        rw [ap2_mk r τ, ap2_mk r τ, step_split]
      rw [ex]
      generalize Xc (nI n) υ = F at xp
      obtain ⟨r, τ⟩ := F
      unfold Tg s_N_step_81
      rw [ap2_mk r τ]
      dsimp only
      rcases xp with ⟨x0, xi⟩ | ⟨xr, x11, x16, xw⟩
      · have x0 : r = 0 := x0
        subst x0
        rw [if_pos (by decide), if_pos rfl, if_pos rfl]
        exact ⟨rfl, xi⟩
      · have xr : r = 4 ∨ r = 5 ∨ r = 6 := xr
        have x11 : τ 11 = υ 11 := x11
        have x16 : ∀ j, 16 ≤ j → τ 0 j = υ 0 j := x16
        have xw : Iw (c + 1) τ := xw
        have rn : ¬ r = 0 ∧ ¬ r ≤ 0 := by rcases xr with rfl | rfl | rfl <;> decide
        have ez : Rz th υ τ = Rf th (upC τ 11 0) := by
          funext k
          unfold Rz
          by_cases k0 : k = 0
          · subst k0
            rw [if_pos rfl, p0]
            show ρ 0 = upC τ 11 0 0
            funext j
            rw [upC_at]
            by_cases g : j < 16
            · rw [if_pos g, x11, r11, hcp j g]
            · rw [if_neg g, x16 j (by omega), r16 j (by omega)]
          · rw [if_neg k0]
            have ec : ∀ i, i ≠ 0 → upC τ 11 0 i = τ i := fun i hi => upC_row τ 11 0 i hi
            unfold Rf
            by_cases b : k ≤ 7
            · rw [if_pos b, if_pos b, ec k k0]
            · rw [if_neg b, if_neg b, ec 8 (by decide), ec 9 (by decide), ec 5 (by decide), ec 10 (by decide)]
        have wI : Iw (c + 1) (upC τ 11 0) := Iw_row xw (by rw [upC_row _ _ _ _ (by decide)]) (by rw [upC_row _ _ _ _ (by decide)]) (fun j _ _ => by rw [upC_row _ _ _ _ (by decide)]) (by rw [upC_row _ _ _ _ (by decide)])
        rw [if_neg rn.2, if_neg rn.1, if_neg rn.1, ez]
        unfold ap1
        dsimp only
        rw [q_raise th r _ wI.1]
        refine ⟨rfl, Iv_raise ⟨?_, wI⟩ r⟩
        rw [upC_at, if_pos (by decide), x11, r11, hcp 15 (by decide)]
        exact h0.1
    · have fr := ff_range ρ
      have rn : ¬ s_N_fetchFault ρ ≤ 0 := by
        rcases fr with q | q | q
        · exact absurd q f
        · rw [q]; decide
        · rw [q]; decide
      rw [if_neg f, if_neg f, ap2_mk, if_neg rn]
      unfold s_N_step_72 s_N_step_81 ap1
      dsimp only
      rw [if_neg f, if_neg f, hb, q_raise th _ _ h0.2.1]
      have z := Iv_raise h0 (s_N_fetchFault ρ)
      exact ⟨rfl, z.1, Iw_mono z.2 (by omega)⟩
  · rw [if_neg d, if_neg (due_pos d)]
    unfold ap1
    dsimp only
    rw [q_take th (due_nI σ) σ]
    have z := Iv_take h (due_nI σ)
    exact ⟨rfl, z.1, Iw_mono z.2 (by omega)⟩
theorem q_step (th : Int32) (c : Nat) (σ : nS) (h : Iv c σ) (hc : c + 1 < 2 ^ 31) : s_Mo_step (Rf th σ) = Rf th (s_N_step σ) ∧ Iv (c + 1) (s_N_step σ) := by
  have G := Rf_gd th
  unfold s_Mo_step s_N_step s_Ti_fires
  rw [gd8 G σ (j := 8) (by decide), gd8 G σ (j := 9) (by decide), up2_self, up2_self]
  have uI : ∀ (τ : nS) (v : Int32), Iv c τ → Iv c (up2 τ 8 9 v) := fun τ v q => ⟨by rw [up2_row _ _ _ (by decide)]; exact q.1, Iw_u q.2 8 9 v (Or.inr (by decide))⟩
  have uJ : ∀ (τ : nS) (v : Int32), Iv c τ → Iv c (up2 τ 2 9 v) := fun τ v q => ⟨by rw [up2_row _ _ _ (by decide)]; exact q.1, Iw_u q.2 2 9 v (Or.inl (by decide))⟩
  by_cases a : σ 8 8 = 0
  · rw [if_pos a, if_pos a, ap2_mk, if_neg (by decide)]
    exact q_step21 th c σ h hc
  · rw [if_neg a, if_neg a]
    by_cases b : σ 8 9 - 1 = 0
    · rw [if_pos b, if_pos b, ap2_mk, if_pos rfl, ← G.u8 _ _ _ (by decide), gd8 G _ (j := 8) (by decide), ← G.u8 _ _ _ (by decide), ← G.2.2.1 _ 2 _ _ (by decide) (by decide) (by decide)]
      exact q_step21 th c _ (uJ _ _ (uI _ _ (uI _ _ h))) hc
    · rw [if_neg b, if_neg b, ap2_mk, if_neg (by decide), ← G.u8 _ _ _ (by decide)]
      exact q_step21 th c _ (uI _ _ h) hc
