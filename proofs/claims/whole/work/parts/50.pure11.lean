-- a whole instruction, with its landing
def Xc (w : Int32) (σ : nS) : Int32 × nS := ap2 (s_N_execute w σ) fun r σ2 => if r = 0 then s_N_land σ2 else (r, σ2)
def Rz (th : Int32) (σ τ : nS) : nS := fun k => if k = 0 then Pf th σ 0 else Rf th τ k
def Tg (th : Int32) (σ : nS) (F : Int32 × nS) : Int32 × nS := (F.1, if F.1 = 0 then Rf th F.2 else Rz th σ F.2)
theorem Tg_0 (th : Int32) (σ τ : nS) : Tg th σ (0, τ) = (0, Rf th τ) := rfl
theorem Tg_6 (th : Int32) (σ τ : nS) : Tg th σ (6, τ) = (6, Rz th σ τ) := rfl
theorem Rz_cong (th : Int32) (σ : nS) {τ υ : nS} (h : ∀ k, k ≠ 0 → τ k = υ k) : Rz th σ τ = Rz th σ υ := by
  funext k
  unfold Rz
  by_cases a : k = 0
  · rw [if_pos a, if_pos a]
  · rw [if_neg a, if_neg a]
    unfold Rf
    by_cases b : k ≤ 7
    · rw [if_pos b, if_pos b, h k a]
    · rw [if_neg b, if_neg b, h 8 (by decide), h 9 (by decide), h 5 (by decide), h 10 (by decide)]
theorem Rz_self (th : Int32) (σ : nS) : Rz th σ σ = Pf th σ := by
  funext k
  unfold Rz
  by_cases a : k = 0
  · rw [if_pos a, a]
  · rw [if_neg a]
    unfold Pf
    rw [up2_row _ _ _ a]
theorem Pf_row0 (th : Int32) {σ τ : nS} (h : τ 0 = σ 0) : Pf th τ 0 = Pf th σ 0 := by
  have e : ∀ σ : nS, Rf th σ 0 = σ 0 := fun _ => rfl
  funext j
  unfold Pf
  rw [up2_at, up2_at, e, e, h]
theorem Rz_lv (th : Int32) (σ τ : nS) (h : ∀ k, k ≠ 0 → τ k = lv σ k) : Rz th σ τ = Pf th (lv σ) := by
  rw [Rz_cong th σ h, ← Rz_self th (lv σ)]
  funext k
  unfold Rz
  by_cases a : k = 0
  · rw [if_pos a, if_pos a, Pf_row0 th (lv_row σ 0 (by decide) (by decide))]
  · rw [if_neg a, if_neg a]
theorem land_ev (σ : nS) (h : ev (σ 0 15)) : s_N_land σ = (0, σ) := by
  have n := ev_ne h
  unfold s_N_land s_N_land_33
  rw [if_neg n.1, if_neg n.2, ite_self, even_ev h, up2_id rfl]
theorem tg_plain (th : Int32) (σ : nS) {F : Int32 × nS} (h : PE σ F) (hv : ev (σ 0 15)) : M3 th F = Tg th σ (ap2 F fun r σ2 => if r = 0 then s_N_land σ2 else (r, σ2)) := by
  obtain ⟨r, τ⟩ := F
  unfold M3 ap2
  dsimp only
  rcases h with ⟨h0, hk, he⟩ | ⟨hr, hs⟩
  · have h0 : r = 0 := h0
    subst h0
    rw [if_pos rfl, if_pos rfl, land_ev τ (he hv)]
    rfl
  · have hs : τ = σ := hs
    have hr : r = 4 ∨ r = 5 ∨ r = 6 := hr
    subst hs
    have hn : ¬ r = 0 := by rcases hr with rfl | rfl | rfl <;> decide
    rw [if_neg hn, if_neg hn]
    unfold Tg
    dsimp only
    rw [if_neg hn, Rz_self]
theorem tg_next (th : Int32) (F : Int32 × nS) : (ap2 (M2 (Pf th) F) fun r1 σ1 => if r1 = 0 then (s_Mo_does_143 r1 (up2 σ1 0 15 ((σ1 0 15) + 2))) else (s_Mo_does_143 r1 σ1)) = M3 th F := by
  obtain ⟨r, τ⟩ := F
  unfold ap2 M2 M3 s_Mo_does_143
  dsimp only
  rw [Pf_next]
  by_cases h : r = 0
  · rw [if_pos h, if_pos h]
  · rw [if_neg h, if_neg h]
theorem tg_jump (th v sp : Int32) (σ : nS) (hf : 0 ≤ σ 8 1) : s_Mo_jump v sp (Pf th σ) = Tg th σ (s_N_land (up2 (up2 σ 0 15 v) 0 13 sp)) := by
  by_cases hr : rt v σ
  · rw [q_jump th v sp σ hf hr, n_land1 σ v sp hf hr]
    by_cases d : s_Ex_due (lv σ) = 0
    · rw [if_pos d, if_pos d]
      by_cases b : bk sp v (lv σ) = true
      · rw [if_pos b, if_pos b]; rfl
      · rw [if_neg b, if_neg b, Tg_6, Rz_lv th σ _ (fun k hk => by rw [up2_row _ _ _ hk, up2_row _ _ _ hk])]
    · rw [if_neg d, if_neg d]; rfl
  · rw [q_jump0 th v sp σ hr, n_land0 σ v sp hr]; rfl
theorem ap2_mk {α β γ : Type} (x : α) (y : β) (k : α → β → γ) : ap2 (x, y) k = k x y := rfl
theorem bx_inv (n : Nat) (hn : n < 65536) (hx : (nI n) &&& 65415 = 18176) : n / 256 = 71 ∧ (nI n) &&& 135 = 0 := by
  have hb : ∀ k, (bt (nI n) k && bt 65415 k) = bt 18176 k := fun k => by rw [← b_and, hx]
  have hz : ∀ k, 16 ≤ k → k < 32 → bt (nI n) k = false := by
    intro k h1 h2
    have e : nI n &&& 65535 = nI n := by rw [pk_andN (by omega) 16 (by decide), show n % 2 ^ 16 = n by omega]
    have t : ∀ k, k < 32 → 16 ≤ k → bt 65535 k = false := by decide
    rw [← e, b_and, t k h2 h1, Bool.and_false]
  constructor
  · have e8 : nI n >>> ((8 : Int32) &&& 31) = nI (n / 256) := by rw [w_sh hn 8 8 (by decide)]
    have q : nI (n / 256) = 71 := by
      rw [← e8]
      apply b_ext
      intro i hi
      have e : ((8 : Int32) &&& 31) = nI 8 &&& 31 := rfl
      rw [e, b_sshr 8 (by decide) _ hi]
      by_cases h : 8 + i < 32
      · rw [if_pos h]
        by_cases g : i < 8
        · have t : ∀ i, i < 8 → bt 65415 (8 + i) = true ∧ bt 18176 (8 + i) = bt 71 i := by decide
          have z := hb (8 + i)
          rw [(t i g).1, Bool.and_true, (t i g).2] at z
          exact z
        · have t : ∀ i, i < 32 → 8 ≤ i → bt 71 i = false := by decide
          rw [hz _ (by omega) h, t i hi (by omega)]
      · have t : ∀ i, i < 32 → 8 ≤ i → bt 71 i = false := by decide
        rw [if_neg h, hz 31 (by decide) (by decide), t i hi (by omega)]
    exact (nI_eq (b := 71) (by omega) (by decide)).mp q
  · have e : (nI n) &&& 135 = ((nI n) &&& 65415) &&& 135 := by
      rw [Int32.and_assoc]
      rfl
    rw [e, hx]
    decide
theorem i_bx (th : Int32) (n : Nat) (hn : n < 65536) (hx : (nI n) &&& 65415 = 18176) (σ : nS) (hf : 0 ≤ σ 8 1) : s_Mo_does (nI n) (Pf th σ) = Tg th σ (Xc (nI n) σ) := by
  obtain ⟨h71, h135⟩ := bx_inv n hn hx
  have e12 : nI n >>> ((12 : Int32) &&& 31) = 4 := by rw [w_sh hn 12 12 (by decide), show n / 2 ^ 12 = 4 by omega]; rfl
  have e10 : nI n >>> ((10 : Int32) &&& 31) = 17 := by rw [w_sh hn 10 10 (by decide), show n / 2 ^ 10 = 17 by omega]; rfl
  have e8 : nI n >>> ((8 : Int32) &&& 31) = 71 := by rw [w_sh hn 8 8 (by decide), show n / 2 ^ 8 = 71 by omega]; rfl
  have ex : s_N_execute (nI n) σ = if (nI n >>> ((3 : Int32) &&& 31)) &&& 15 = 15 then (6, σ) else (0, up2 σ 0 15 (σ 0 ((nI n >>> ((3 : Int32) &&& 31)) &&& 15).toNatClampNeg)) := by
    unfold s_N_execute s_N_copyOrBranch s_N_branchTo s_N_branchTo_21
    rw [e12, e10, e8, h135]
    simp (decide := true) only [↓reduceIte]
    rfl
  unfold s_Mo_does s_Mo_exchange Xc
  rw [if_pos hx, ex]
  by_cases m : (nI n >>> ((3 : Int32) &&& 31)) &&& 15 = 15
  · rw [if_pos m, if_pos m]
    show (6, Pf th σ) = Tg th σ (6, σ)
    rw [Tg_6, Rz_self]
  · rw [if_neg m, if_neg m, Pf_r th σ (vin_ne (vin_and15_16 _) m), Pf_r th σ (j := 13) (by decide)]
    show s_Mo_jump (σ 0 ((nI n >>> ((3 : Int32) &&& 31)) &&& 15).toNatClampNeg) (σ 0 13) (Pf th σ) = Tg th σ (s_N_land (up2 σ 0 15 (σ 0 ((nI n >>> ((3 : Int32) &&& 31)) &&& 15).toNatClampNeg)))
    rw [tg_jump th _ _ σ hf, up2_id (σ := up2 σ 0 15 _) (k := 0) (j := 13) (v := σ 0 13) (by rw [up2_at, if_neg (by decide)])]
-- POP
theorem unst_9 (sp : Int32) (σ : nS) : unst sp σ 9 = σ 9 := by
  have u : ∀ (f : Int32) (τ : nS), s_Fl_unpack f τ 9 = τ 9 := by
    intro f τ
    unfold s_Fl_unpack s_Fl_unpack_13 s_Fl_unpack_28 s_Fl_unpack_43 s_Fl_unpack_58
    by_cases a : f &&& 8 = 0 <;> by_cases b : f &&& 4 = 0 <;> by_cases c : f &&& 2 = 0 <;> by_cases d : f &&& 1 = 0 <;> simp only [a, b, c, d, if_true, if_false] <;> rw [up2_row _ _ _ (by decide), up2_row _ _ _ (by decide), up2_row _ _ _ (by decide), up2_row _ _ _ (by decide)]
  unfold unst
  rw [unst_RG, up2_row _ _ _ (by decide), u]
  unfold RG
  rw [up2_row _ _ _ (by decide), up2_row _ _ _ (by decide), up2_row _ _ _ (by decide), up2_row _ _ _ (by decide), up2_row _ _ _ (by decide), up2_row _ _ _ (by decide), up2_row _ _ _ (by decide), up2_row _ _ _ (by decide)]
theorem unst_13 (sp : Int32) (σ : nS) : unst sp σ 8 13 = σ 8 13 := by
  have u : ∀ (f : Int32) (τ : nS), s_Fl_unpack f τ 8 13 = τ 8 13 := by
    intro f τ
    unfold s_Fl_unpack s_Fl_unpack_13 s_Fl_unpack_28 s_Fl_unpack_43 s_Fl_unpack_58
    by_cases a : f &&& 8 = 0 <;> by_cases b : f &&& 4 = 0 <;> by_cases c : f &&& 2 = 0 <;> by_cases d : f &&& 1 = 0 <;> simp (decide := true) only [a, b, c, d, if_true, if_false, up2_at, ↓reduceIte]
  unfold unst
  rw [unst_RG, up2_at, if_neg (by decide), u]
  unfold RG
  rw [up2_row _ _ _ (by decide), up2_row _ _ _ (by decide), up2_row _ _ _ (by decide), up2_row _ _ _ (by decide), up2_row _ _ _ (by decide), up2_row _ _ _ (by decide), up2_row _ _ _ (by decide), up2_row _ _ _ (by decide)]
theorem ent_9 (e v sp : Int32) (σ : nS) : ent e v sp σ 9 = σ 9 := by
  unfold ent s_N_enter
  rw [up2_row _ _ _ (by decide), up2_row _ _ _ (by decide), up2_row _ _ _ (by decide), up2_row _ _ _ (by decide), up2_row _ _ _ (by decide), up2_row _ _ _ (by decide), up2_row _ _ _ (by decide)]
theorem ent_13 (e v sp : Int32) (σ : nS) : ent e v sp σ 8 13 = σ 8 13 + 1 := by
  unfold ent s_N_enter
  rw [up2_row _ _ _ (by decide), up2_at, if_neg (by decide), up2_row _ _ _ (by decide), up2_row _ _ _ (by decide), up2_self]
theorem ent_comm (e v sp : Int32) (σ : nS) (j : Nat) (x : Int32) (h : j < 8) : ent e v sp (up2 σ 0 j x) = up2 (ent e v sp σ) 0 j x := by
  unfold ent s_N_enter
  rw [up2_row σ (x := 8) j x (by decide), up2_comm σ x sp (Or.inr (by omega)), up2_comm (k := 0) (j := j) _ x v (Or.inr (by omega)), up2_comm (k := 0) (j := j) _ x _ (Or.inl (by decide)), up2_comm (k := 0) (j := j) _ x _ (Or.inl (by decide)), up2_comm (k := 0) (j := j) _ x _ (Or.inl (by decide)), up2_comm (k := 0) (j := j) _ x _ (Or.inl (by decide)), ld_row0, up2_comm (k := 0) (j := j) _ x _ (Or.inr (by omega))]
theorem uo (l sp a : Int32) (ρ : nS) (m : Nat) (h4 : 4 ≤ m) (h8 : m < 8) : unst sp (ldr l (m + 1) a ρ) = unst sp (ldr l m (a + nI (4 * bq l (7 - m))) ρ) := by
  have r : ldr l (m + 1) a ρ = if ((l >>> (nI (7 - m) &&& 31)) &&& 1) = 0 then ldr l m a ρ else ldr l m (a + 4) (up2 ρ 0 (7 - m) (s_Me_load a ρ)) := rfl
  rw [r]
  by_cases h : ((l >>> (nI (7 - m) &&& 31)) &&& 1) = 0
  · have b : bq l (7 - m) = 0 := if_pos h
    rw [if_pos h, b, at0]
  · have b : bq l (7 - m) = 1 := if_neg h
    have c := ldr_comm l (fun σ => up2 σ 0 (7 - m) (s_Me_load a ρ)) (fun σ => by show up2 σ 0 _ _ 9 = σ 9; rw [up2_row _ _ _ (by decide)]) m (by omega) (fun σ j v h1 h2 => up2_comm σ _ _ (Or.inr (by omega))) (a + 4) ρ
    have c : up2 (ldr l m (a + 4) ρ) 0 (7 - m) (s_Me_load a ρ) = ldr l m (a + 4) (up2 ρ 0 (7 - m) (s_Me_load a ρ)) := c
    rw [if_neg h, b, ← c, unst_over sp _ (7 - m) _ (by omega)]
    rfl
theorem unst_ldr (l sp a : Int32) (ρ : nS) : unst sp (ldr l 8 a ρ) = ldr l 4 (a + nI (4 * (bq l 0 + bq l 1 + bq l 2 + bq l 3))) (unst sp ρ) := by
  have j : ∀ (x : Int32) (p q : Nat), x + nI (4 * p) + nI (4 * q) = x + nI (4 * (p + q)) := by
    intro x p q
    rw [Int32.add_assoc, nI_add, show 4 * p + 4 * q = 4 * (p + q) by omega]
  rw [uo l sp a ρ 7 (by decide) (by decide), uo l sp _ ρ 6 (by decide) (by decide), uo l sp _ ρ 5 (by decide) (by decide), uo l sp _ ρ 4 (by decide) (by decide), j, j, j, ldr_comm l (unst sp) (unst_9 sp) 4 (by decide) (fun σ j v h1 h2 => unst_comm sp σ j v h1 h2)]
  refine congrArg (fun z => ldr l 4 (a + nI (4 * z)) (unst sp ρ)) ?_
  show bq l 0 + (bq l 1 + (bq l 2 + bq l 3)) = _
  omega
theorem end4 (a : Int32) (c : Nat) : a + nI (4 * (c + 1)) - 4 = a + nI (4 * c) := by
  rw [show 4 * (c + 1) = 4 * c + 4 by omega, ← nI_add, ← Int32.add_assoc, Int32.sub_eq_add_neg, Int32.add_assoc _ (nI 4)]
  show a + nI (4 * c) + 0 = _
  rw [Int32.add_zero]
theorem bit8 (j : Nat) (hj : j < 512) : ((nI j >>> ((8 : Int32) &&& 31)) &&& 1 = 0 ↔ j < 256) ∧ (nI j ≤ 255 ↔ j < 256) := by
  constructor
  · rw [pk_shrN (by omega) _ 8 (by decide), pk_andN (by omega) 1 (by decide)]
    constructor
    · intro h
      have := (nI_eq (b := 0) (by omega) (by decide)).mp h
      omega
    · intro h
      rw [show j / 2 ^ 8 % 2 ^ 1 = 0 by omega]
      rfl
  · constructor
    · intro h
      have := (nI_leI (b := 255) (by omega) (by decide)).mp h
      omega
    · intro h
      exact nI_le (b := 255) (by omega) (by decide)
theorem w256 : (∀ b : Nat, b < 256 → (nI (256 * 188 + b)) &&& 256 = 0) ∧ ∀ b : Nat, b < 256 → ¬ (nI (256 * 189 + b)) &&& 256 = 0 := by
  constructor <;> decide +kernel
theorem pop_exec (n : Nat) (hn : n < 65536) (hp : n / 512 = 94) (σ : nS) : s_N_execute (nI n) σ = s_N_pop (nI n &&& 511) σ := by
  have e12 : nI n >>> ((12 : Int32) &&& 31) = 11 := by rw [w_sh hn 12 12 (by decide), show n / 2 ^ 12 = 11 by omega]; rfl
  have e8 : nI n >>> ((8 : Int32) &&& 31) = nI (n / 256) := by rw [w_sh hn 8 8 (by decide)]
  unfold s_N_execute s_N_stackOrSwitch
  rw [e12, e8]
  simp (decide := true) only [↓reduceIte]
  have cl : n / 256 = 188 ∨ n / 256 = 189 := by omega
  rcases cl with c | c
  · rw [c]
    simp (decide := true) only [↓reduceIte]
    rfl
  · rw [c]
    simp (decide := true) only [↓reduceIte]
    rfl
def ch1 (σ : nS) : Prop := ¬ σ 8 13 + 1 ≤ σ 8 13
theorem i_pop (th : Int32) (n : Nat) (hn : n < 65536) (hp : n / 512 = 94) (σ : nS) (hf : 0 ≤ σ 8 1) (hv : ev (σ 0 15)) (hc : ch1 σ) : s_Mo_does (nI n) (Pf th σ) = Tg th σ (Xc (nI n) σ) := by
  have G := Pf_gd th
  have nx : ¬ (nI n) &&& 65415 = 18176 := by
    intro hx
    have := (bx_inv n hn hx).1
    omega
  have e9 : nI n >>> ((9 : Int32) &&& 31) = 94 := by rw [w_sh hn 9 9 (by decide), show n / 2 ^ 9 = 94 by omega]; rfl
  have el : nI n &&& 511 = nI (n % 512) := by rw [pk_andN (by omega) 9 (by decide)]
  have b8 := bit8 (n % 512) (by omega)
  unfold s_Mo_does Xc s_Mo_does_58
  rw [if_neg nx, e9, if_pos rfl, pop_exec n hn hp]
  have c9 := cq_le (nI n &&& 511) 9
  have cd : cq (nI n &&& 511) 9 = dq (nI n &&& 511) 8 + bq (nI n &&& 511) 8 := cq_dq _ 8 (by decide)
  unfold s_Mo_pop s_N_pop
  rw [ones_cq, bc_cq, Pf_r th σ (j := 13) (by decide)]
  by_cases h0 : nI (cq (nI n &&& 511) 9) = 0
  · rw [if_pos h0, if_pos h0]
    unfold s_Mo_pop_29
    rw [if_neg (by decide)]
    show (6, Pf th σ) = Tg th σ (6, σ)
    rw [Tg_6, Rz_self]
  rw [if_neg h0, if_neg h0, q_fault G _ _ 1 (by decide)]
  generalize hat : σ 0 13 = a
  by_cases f0 : s_N_faultAlong a (nI (cq (nI n &&& 511) 9)) 1 σ = 0
  · have W : ∀ j, j < cq (nI n &&& 511) 9 → wok (a + nI (4 * j)) := fun j hj => fa_wok _ _ _ σ f0 j (by omega) (nI_lt hj (by omega))
    rw [if_pos f0]
    unfold s_Mo_pop_29
    rw [if_pos ((pos45 (fa_range _ _ _ _)).mpr f0), np_0, mul4]
    generalize hl : nI n &&& 511 = l at *
    have hrow : ∀ k, k ≠ 0 → ldr l 8 a σ k = σ k := fun k hk => ldr_9 l 8 a σ k hk
    unfold s_N_pop_40_8 s_N_pop_86_8 s_N_pop_74_8 s_N_pop_86_8 s_N_pop_40_9
    by_cases hb : ((l >>> ((8 : Int32) &&& 31)) &&& 1) = 0
    · have bz : bq l 8 = 0 := if_pos hb
      have hlt : n % 512 < 256 := by rw [el] at hb; exact b8.1.mp hb
      have hle : l ≤ 255 := by rw [el]; exact b8.2.mpr hlt
      have w0 : nI n &&& 256 = 0 := by
        have := w256.1 (n % 256) (by omega)
        rw [show 256 * 188 + n % 256 = n by omega] at this
        exact this
      unfold s_Mo_pop_65 s_Mo_pop_87 s_Mo_pop_88 s_Mo_pop_119
      rw [if_pos hle, if_pos hle, if_neg (by decide), mp_0 G (Pf_g0 th) l a _ _ _ σ W]
      unfold s_Mo_pop_122_8 s_Mo_pop_215
      rw [if_neg (by decide), if_pos hle, if_pos hb, ← Pf_g0 th _ 13 _ (by decide), w0]
      show (0, up2 (Pf th (up2 (ldr l 8 a σ) 0 13 (a + nI (4 * cq l 9)))) 0 15 _) = Tg th σ (s_N_land _)
      rw [Pf_next, land_ev _ (by
        show ev (up2 (ldr l 8 a σ) 0 13 (a + nI (4 * dq l 8)) 0 15)
        rw [up2_at, if_neg (by decide)]
        rw [ldr_same l (fun τ => τ 0 15) 8 (by decide) (fun τ j v _ h => by show up2 τ 0 j v 0 15 = τ 0 15; rw [up2_at, if_neg (by omega)]) a σ]
        exact hv), Tg_0, cd, bz, Nat.add_zero]
    · have bz : bq l 8 = 1 := if_neg hb
      have hlt : ¬ n % 512 < 256 := fun q => hb (by rw [el]; exact b8.1.mpr q)
      have hle : ¬ l ≤ 255 := fun q => hlt (by rw [el] at q; exact b8.2.mp q)
      have w0 : ¬ nI n &&& 256 = 0 := by
        have := w256.2 (n % 256) (by omega)
        rw [show 256 * 189 + n % 256 = n by omega] at this
        exact this
      rw [cd, bz, end4]
      have wl : wok (a + nI (4 * dq l 8)) := W _ (by omega)
      have e4 : a + nI (4 * dq l 8) + 4 = a + nI (4 * (dq l 8 + 1)) := by
        rw [show 4 * (dq l 8 + 1) = 4 * dq l 8 + 4 by omega, ← nI_add, Int32.add_assoc]
        rfl
      rw [if_neg hle, if_neg hb, q_load G wl, ldr_load]
      generalize hpc : s_Me_load (a + nI (4 * dq l 8)) σ = pc
      rw [e4]
      generalize hsp : a + nI (4 * (dq l 8 + 1)) = sp
      unfold s_Mo_pop_65
      rw [if_neg hle]
      show _ = Tg th σ (s_N_land (up2 (up2 (ldr l 8 a σ) 0 15 pc) 0 13 sp))
      by_cases hr : rt pc σ
      · have hr8 : rt pc (ldr l 8 a σ) := by unfold rt at *; rw [hrow 8 (by decide)]; exact hr
        have hf8 : 0 ≤ ldr l 8 a σ 8 1 := by rw [hrow 8 (by decide)]; exact hf
        have lvc : lv (ldr l 8 a σ) = ldr l 8 a (lv σ) := ldr_comm l lv (fun τ => lv_row τ 9 (by decide) (by decide)) 8 (by decide) (fun τ j v _ _ => lv_row0 τ j v) a σ
        have hl1 : 0 ≤ lv σ 8 1 := by rw [lv8 σ 1 (by decide)]; exact hf
        have due8 : s_Ex_due (ldr l 8 a (lv σ)) = s_Ex_due (lv σ) := by
          have h1 : RelC (ldr l 8 a (lv σ)) (Rf 0 (lv σ)) := ⟨fun k h1 h7 => by rw [(Rf_relC 0 (lv σ)).1 k h1 h7, ldr_9 l 8 a _ k (by omega)], fun i h => by rw [(Rf_relC 0 (lv σ)).2 i h, ldr_9 l 8 a _ 8 (by decide)]⟩
          rw [← due_eq (Rf_relC 0 (lv σ)) hl1, due_eq h1 (by rw [ldr_9 l 8 a _ 8 (by decide)]; exact hl1)]
        have bk8 : bk sp pc (ldr l 8 a (lv σ)) = bk sp pc (lv σ) := by
          unfold bk
          rw [ldr_load]
        rw [if_pos ((q_isRet G pc σ).mpr hr)]
        unfold s_Mo_pop_88 s_Mo_pop_119
        rw [if_pos rfl, q_jump th pc sp σ hf hr, n_land1 _ pc sp hf8 hr8, lvc, due8, bk8, gd8 G σ (j := 13) (by decide)]
        by_cases d : s_Ex_due (lv σ) = 0
        · rw [if_pos d, if_pos d]
          by_cases b : bk sp pc (lv σ) = true
          · rw [if_pos b, if_pos b, Tg_0]
            have wm : ∀ j, j < cq l 9 → wok (a + nI (4 * j)) := fun j hj => W j (by omega)
            have z := mb_0 (Rf_gd th) (Rf_g0 th) l a sp pc (σ 8 13) (unst sp (lv σ)) (by rw [unst_13, lv8 σ 13 (by decide)]; exact Int32.le_refl _) wm
            rw [ap2_mk (0 : Int32) (Rf th (unst sp (lv σ))), if_pos (show (0 : Int32) ≤ 0 by decide), z]
            unfold s_Mo_pop_122_8
            rw [if_pos rfl, ap2_mk, if_pos rfl, if_neg w0, unst_ldr]
          · rw [if_neg b, if_neg b, Tg_6, Rz_lv th σ _ (fun k hk => by rw [up2_row _ _ _ hk, up2_row _ _ _ hk, ldr_9 l 8 a _ k hk])]
            rw [ap2_mk (6 : Int32) (Pf th (lv σ)), if_neg (show ¬ (6 : Int32) ≤ 0 by decide), ap2_mk, if_neg (show ¬ (6 : Int32) = 0 by decide)]
        · rw [if_neg d, if_neg d, Tg_0]
          have wm : ∀ j, j < cq l 9 → wok (a + nI (4 * j)) := fun j hj => W j (by omega)
          have z := mc_0 (Rf_gd th) (Rf_g0 th) l a sp pc (σ 8 13) (ent (s_Ex_due (lv σ)) pc sp (lv σ)) (by rw [ent_13, lv8 σ 13 (by decide)]; exact hc) wm
          rw [ap2_mk (0 : Int32) (Rf th (ent (s_Ex_due (lv σ)) pc sp (lv σ))), if_pos (show (0 : Int32) ≤ 0 by decide), z]
          unfold s_Mo_pop_122_8
          rw [if_pos rfl, ap2_mk, if_pos rfl, if_neg w0, ldr_comm l (ent (s_Ex_due (lv σ)) pc sp) (ent_9 _ _ _) 8 (by decide) (fun τ j v _ h => ent_comm _ _ _ τ j v h)]
      · have hr8 : ¬ rt pc (ldr l 8 a σ) := by unfold rt at *; rw [hrow 8 (by decide)]; exact hr
        have wm : ∀ j, j < cq l 9 → wok (a + nI (4 * j)) := fun j hj => W j (by omega)
        rw [if_neg (fun q => hr ((q_isRet G pc σ).mp q)), n_land0 _ pc sp hr8, Tg_0]
        unfold s_Mo_pop_87 s_Mo_pop_88 s_Mo_pop_119
        rw [if_neg (by decide), mp_0 G (Pf_g0 th) l a _ _ _ σ wm]
        unfold s_Mo_pop_122_8 s_Mo_pop_215
        rw [if_neg (by decide), if_neg hle, ← Pf_g0 th _ 13 _ (by decide), Pf_to]
        rw [ap2_mk, if_pos rfl, if_neg w0]
        rfl
  · rw [if_neg f0]
    unfold s_Mo_pop_29
    rw [if_neg (fun q => f0 ((pos45 (fa_range _ _ _ _)).mp q))]
    unfold ap2
    dsimp only
    rw [if_neg f0, if_neg f0]
    unfold Tg
    dsimp only
    rw [if_neg f0, Rz_self]
