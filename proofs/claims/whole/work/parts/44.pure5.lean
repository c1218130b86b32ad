-- memory
/-- a word's address -/
def wok (v : Int32) : Prop := ∃ i : Nat, i < 256 ∧ v = nI (4 * i)
def Gm (M : nS → nS) : Prop := ∀ σ i v x, x ≠ 9 → M (up2 σ 9 i v) x = M σ x
theorem Rf_gm (th : Int32) : Gm (Rf th) := by
  intro σ i v x h
  unfold Rf
  by_cases a : x ≤ 7
  · rw [if_pos a, if_pos a, up2_row _ _ _ (by omega)]
  · rw [if_neg a, if_neg a]
    by_cases b : x = 8
    · rw [if_pos b, if_pos b, up2_row _ _ _ (by decide)]
    · rw [if_neg b, if_neg b, if_neg h, if_neg h, up2_row _ (x := 5) _ _ (by decide), up2_row _ (x := 10) _ _ (by decide)]
theorem Pf_gm (th : Int32) : Gm (Pf th) := by
  intro σ i v x h
  unfold Pf
  funext y
  rw [show (up2 σ 9 i v) 0 15 = σ 0 15 from by rw [up2_row σ (x := 0) i v (by decide)], up2_at, up2_at, Rf_gm th σ i v x h]
theorem byt_bt (w : Int32) (k i : Nat) (hk : k < 4) (hi : i < 32) : bt (byt w k) i = (decide (i < 8) && bt w (8 * k + i)) := by
  unfold byt
  rw [b_and, b_255, b_sshr (8 * k) (by omega) w hi]
  by_cases h : i < 8
  · rw [if_pos (by omega), Bool.and_comm]
  · simp [h]
theorem pack_byt (w : Int32) : (((byt w 0) ||| ((byt w 1) <<< ((8 : Int32) &&& 31))) ||| ((byt w 2) <<< ((16 : Int32) &&& 31))) ||| ((byt w 3) <<< ((24 : Int32) &&& 31)) = w := by
  apply b_ext
  intro i hi
  rw [b_or, b_or, b_or, b_shl8 _ hi, b_shl16 _ hi, b_shl24 _ hi, byt_bt w 0 i (by decide) hi, byt_bt w 1 (i - 8) (by decide) (by omega), byt_bt w 2 (i - 16) (by decide) (by omega), byt_bt w 3 (i - 24) (by decide) (by omega)]
  by_cases h1 : i < 8
  · simp [h1, show ¬ 8 ≤ i by omega, show ¬ 16 ≤ i by omega, show ¬ 24 ≤ i by omega]
  · by_cases h2 : i < 16
    · simp [h1, show 8 ≤ i by omega, show ¬ 16 ≤ i by omega, show ¬ 24 ≤ i by omega, show i - 8 < 8 by omega, show 8 + (i - 8) = i by omega]
    · by_cases h3 : i < 24
      · simp [h1, show 8 ≤ i by omega, show 16 ≤ i by omega, show ¬ 24 ≤ i by omega, show ¬ i - 8 < 8 by omega, show i - 16 < 8 by omega, show 16 + (i - 16) = i by omega]
      · simp [h1, show 8 ≤ i by omega, show 16 ≤ i by omega, show 24 ≤ i by omega, show ¬ i - 8 < 8 by omega, show ¬ i - 16 < 8 by omega, show i - 24 < 8 by omega, show 24 + (i - 24) = i by omega]
theorem ix_word {i : Nat} (h : i < 256) : ((nI (4 * i) >>> ((2 : Int32) &&& 31)) &&& 255).toNatClampNeg = i := by
  rw [pk_shrN (by omega) _ 2 (by decide), show 4 * i / 2 ^ 2 = i by omega, pk_andN (by omega) 8 (by decide), show i % 2 ^ 8 = i by omega, nI_clamp (by omega)]
theorem ix_b {i : Nat} (h : i < 256) (k : Nat) (hk : k < 4) (c : Int32) (hc : c = nI k) : (nI (4 * i) + c).toNatClampNeg = 4 * i + k := by
  rw [hc, nI_add, nI_clamp (by omega)]
section MEM
variable {M : nS → nS}
theorem q_load (G : Gd M) {v : Int32} (hv : wok v) (σ : nS) : s_Mo_load v (M σ) = s_Me_load v σ := by
  obtain ⟨i, hi, rfl⟩ := hv
  unfold s_Mo_load s_Me_load
  rw [ix_word hi, G.2.2.2.1 σ, ix_b hi 1 (by decide) 1 rfl, ix_b hi 2 (by decide) 2 rfl, ix_b hi 3 (by decide) 3 rfl, nI_clamp (show 4 * i < 2 ^ 31 by omega)]
  dsimp only
  rw [show (4 * i) / 4 = i by omega, show (4 * i) % 4 = 0 by omega, show (4 * i + 1) / 4 = i by omega, show (4 * i + 1) % 4 = 1 by omega, show (4 * i + 2) / 4 = i by omega, show (4 * i + 2) % 4 = 2 by omega, show (4 * i + 3) / 4 = i by omega, show (4 * i + 3) % 4 = 3 by omega]
  exact pack_byt _
theorem q_store (G : Gd M) (Gw : Gm M) {v : Int32} (hv : wok v) (x : Int32) (σ : nS) : s_Mo_store v x (M σ) = M (s_Me_store v x σ) := by
  obtain ⟨i, hi, rfl⟩ := hv
  unfold s_Mo_store s_Mo_store_2_0 s_Mo_store_2_1 s_Mo_store_2_2 s_Mo_store_2_3 s_Mo_store_2_4 s_Me_store
  rw [ix_word hi, ix_b hi 0 (by decide) 0 rfl, ix_b hi 1 (by decide) 1 rfl, ix_b hi 2 (by decide) 2 rfl, ix_b hi 3 (by decide) 3 rfl]
  funext a y
  by_cases ha : a = 9
  · subst ha
    rw [G.2.2.2.1]
    simp only [up2_at, true_and]
    by_cases h : y / 4 = i
    · rw [if_pos h]
      have : y = 4 * i ∨ y = 4 * i + 1 ∨ y = 4 * i + 2 ∨ y = 4 * i + 3 := by omega
      rcases this with e | e | e | e
      · rw [if_neg (by omega), if_neg (by omega), if_neg (by omega), if_pos (by omega), show y % 4 = 0 by omega]; rfl
      · rw [if_neg (by omega), if_neg (by omega), if_pos (by omega), show y % 4 = 1 by omega]; rfl
      · rw [if_neg (by omega), if_pos (by omega), show y % 4 = 2 by omega]; rfl
      · rw [if_pos (by omega), show y % 4 = 3 by omega]; rfl
    · rw [if_neg h, if_neg (by omega), if_neg (by omega), if_neg (by omega), if_neg (by omega), G.2.2.2.1]
  · rw [Gw σ i x a ha, up2_at, if_neg (fun q => ha q.1), up2_at, if_neg (fun q => ha q.1), up2_at, if_neg (fun q => ha q.1), up2_at, if_neg (fun q => ha q.1)]
theorem q_isWord (v : Int32) : s_Mo_isWord v = s_Me_holdsWord v := by
  unfold s_Mo_isWord s_Me_holdsWord s_Mo_isWord_21 s_Me_holdsWord_21
  by_cases h : v < 0
  · rw [if_pos h, if_pos h]
  · rw [if_neg h, if_neg h]
    obtain ⟨n, hn, rfl⟩ := nI_of h
    rw [pk_andN (by omega) 2 (by decide)]
    by_cases a : 1024 ≤ n
    · rw [if_pos (show (1024 : Int32) ≤ nI n from nI_le (a := 1024) a hn), if_pos (show (1020 : Int32) < nI n from nI_lt (a := 1020) (by omega) hn)]
    · rw [if_neg (show ¬ (1024 : Int32) ≤ nI n from nI_ge (b := 1024) (by omega) (by omega))]
      by_cases b : 1020 < n
      · rw [if_pos (show (1020 : Int32) < nI n from nI_lt (a := 1020) b hn), if_neg]
        intro q
        have := (nI_eq (a := n % 2 ^ 2) (b := 0) (by omega) (by omega)).mp q
        omega
      · rw [if_neg (show ¬ (1020 : Int32) < nI n from nI_nlt (b := n) (a := 1020) (by omega) (by decide))]
theorem wok_of {v : Int32} (h : s_Me_holdsWord v = true) : wok v := by
  unfold s_Me_holdsWord s_Me_holdsWord_21 at h
  by_cases a : v < 0
  · rw [if_pos a] at h; cases h
  · rw [if_neg a] at h
    obtain ⟨n, hn, rfl⟩ := nI_of a
    by_cases b : (1024 : Int32) ≤ nI n
    · rw [if_pos b] at h; cases h
    · rw [if_neg b] at h
      have b' : n < 1024 := by
        rcases Nat.lt_or_ge n 1024 with z | z
        · exact z
        · exact absurd (show (1024 : Int32) ≤ nI n from nI_le (a := 1024) z hn) b
      by_cases c : nI n &&& 3 = 0
      · rw [pk_andN (by omega) 2 (by decide)] at c
        have := (nI_eq (a := n % 2 ^ 2) (b := 0) (by omega) (by omega)).mp c
        exact ⟨n / 4, by omega, by rw [show 4 * (n / 4) = n by omega]⟩
      · rw [if_neg c] at h; cases h
theorem q_isFrame (v : Int32) : s_Mo_isFrame v = s_Me_holdsFrame v := rfl
theorem frame_of {v : Int32} (h : s_Me_holdsFrame v = true) : ∃ i : Nat, i ≤ 248 ∧ v = nI (4 * i) := by
  unfold s_Me_holdsFrame s_Me_holdsFrame_21 at h
  by_cases a : v < 0
  · rw [if_pos a] at h; cases h
  · rw [if_neg a] at h
    obtain ⟨n, hn, rfl⟩ := nI_of a
    by_cases b : (992 : Int32) < nI n
    · rw [if_pos b] at h; cases h
    · rw [if_neg b] at h
      have b' : n ≤ 992 := by
        rcases Nat.lt_or_ge 992 n with z | z
        · exact absurd (show (992 : Int32) < nI n from nI_lt (a := 992) z hn) b
        · exact z
      by_cases c : nI n &&& 3 = 0
      · rw [pk_andN (by omega) 2 (by decide)] at c
        have := (nI_eq (a := n % 2 ^ 2) (b := 0) (by omega) (by omega)).mp c
        exact ⟨n / 4, by omega, by rw [show 4 * (n / 4) = n by omega]⟩
      · rw [if_neg c] at h; cases h
theorem frame_wok {v : Int32} (h : s_Me_holdsFrame v = true) (k : Nat) (hk : k < 8) (c : Int32) (hc : c = nI (4 * k)) : wok (v + c) := by
  obtain ⟨i, hi, rfl⟩ := frame_of h
  exact ⟨i + k, by omega, by rw [hc, nI_add, show 4 * i + 4 * k = 4 * (i + k) by omega]⟩
-- areas
def miss (σ : nS) (v : Int32) (k : Nat) : Prop := v < σ 5 k ∨ σ 5 k + σ 10 k ≤ v
def vl (σ : nS) (need : Int32) (ins : Bool) (k : Nat) : Bool := if σ 6 k < need then true else if ins = true then (if σ 7 k = 0 then false else true) else false
theorem ite_or {α : Type} {a b : Prop} [Decidable a] [Decidable b] (x y : α) : (if a then x else if b then x else y) = if a ∨ b then x else y := by
  by_cases h : a <;> by_cases g : b <;> simp [h, g]
theorem ar_0 (v n : Int32) (i : Bool) (σ : nS) : s_Ar_bars_3_0 v n i σ = if v < σ 5 0 ∨ σ 5 0 + σ 10 0 ≤ v then s_Ar_bars_3_m1 v n i σ else vl σ n i 0 := by
  unfold s_Ar_bars_3_0 s_Ar_bars_69_0
  rw [ite_or]
  rfl
theorem ar_1 (v n : Int32) (i : Bool) (σ : nS) : s_Ar_bars_3_1 v n i σ = if v < σ 5 1 ∨ σ 5 1 + σ 10 1 ≤ v then s_Ar_bars_3_0 v n i σ else vl σ n i 1 := by
  unfold s_Ar_bars_3_1 s_Ar_bars_69_1
  rw [ite_or]
  rfl
theorem ar_2 (v n : Int32) (i : Bool) (σ : nS) : s_Ar_bars_3_2 v n i σ = if v < σ 5 2 ∨ σ 5 2 + σ 10 2 ≤ v then s_Ar_bars_3_1 v n i σ else vl σ n i 2 := by
  unfold s_Ar_bars_3_2 s_Ar_bars_69_2
  rw [ite_or]
  rfl
theorem ar_3 (v n : Int32) (i : Bool) (σ : nS) : s_Ar_bars_3_3 v n i σ = if v < σ 5 3 ∨ σ 5 3 + σ 10 3 ≤ v then s_Ar_bars_3_2 v n i σ else vl σ n i 3 := by
  unfold s_Ar_bars_3_3 s_Ar_bars_69_3
  rw [ite_or]
  rfl
theorem mo_3 (G : Gd M) (v n : Int32) (b : Bool) (σ : nS) : s_Mo_barred_5_3 v n b (M σ) = if v < σ 5 3 ∨ σ 5 3 + σ 10 3 ≤ v then s_Mo_barred_5_4 v n b (M σ) else s_Mo_barred_5_4 v n (vl σ (if n = 3 then 1 else n) (if n = 3 then true else false) 3) (M σ) := by
  unfold s_Mo_barred_5_3 s_Mo_barred_84_3 s_Mo_barred_59_3 s_Mo_barred_83_3 s_Mo_barred_84_3
  rw [gdk G σ (k := 5) (by decide) (by decide), gdk G σ (k := 6) (by decide) (by decide), gdk G σ (k := 7) (by decide) (by decide), G.2.2.2.2 σ, ite_or]
  by_cases h : v < σ 5 3 ∨ σ 5 3 + σ 10 3 ≤ v
  · rw [if_pos h, if_pos h]
  · rw [if_neg h, if_neg h]
    unfold vl
    by_cases c3 : n = 3
    · rw [if_pos c3, if_pos c3, if_pos c3]
      simp only [if_true]
      by_cases a : σ 6 3 < 1
      · rw [if_pos a, if_pos a]
      · rw [if_neg a, if_neg a]
        by_cases c : σ 7 3 = 0
        · rw [if_pos c, if_pos c]
        · rw [if_neg c, if_neg c]
    · rw [if_neg c3, if_neg c3, if_neg c3]
      by_cases a : n ≤ σ 6 3
      · rw [if_pos a, if_neg (Int32.not_lt.mpr a)]
        rfl
      · rw [if_neg a, if_pos (Int32.not_le.mp a)]
theorem mo_2 (G : Gd M) (v n : Int32) (b : Bool) (σ : nS) : s_Mo_barred_5_2 v n b (M σ) = if v < σ 5 2 ∨ σ 5 2 + σ 10 2 ≤ v then s_Mo_barred_5_3 v n b (M σ) else s_Mo_barred_5_3 v n (vl σ (if n = 3 then 1 else n) (if n = 3 then true else false) 2) (M σ) := by
  unfold s_Mo_barred_5_2 s_Mo_barred_84_2 s_Mo_barred_59_2 s_Mo_barred_83_2 s_Mo_barred_84_2
  rw [gdk G σ (k := 5) (by decide) (by decide), gdk G σ (k := 6) (by decide) (by decide), gdk G σ (k := 7) (by decide) (by decide), G.2.2.2.2 σ, ite_or]
  by_cases h : v < σ 5 2 ∨ σ 5 2 + σ 10 2 ≤ v
  · rw [if_pos h, if_pos h]
  · rw [if_neg h, if_neg h]
    unfold vl
    by_cases c3 : n = 3
    · rw [if_pos c3, if_pos c3, if_pos c3]
      simp only [if_true]
      by_cases a : σ 6 2 < 1
      · rw [if_pos a, if_pos a]
      · rw [if_neg a, if_neg a]
        by_cases c : σ 7 2 = 0
        · rw [if_pos c, if_pos c]
        · rw [if_neg c, if_neg c]
    · rw [if_neg c3, if_neg c3, if_neg c3]
      by_cases a : n ≤ σ 6 2
      · rw [if_pos a, if_neg (Int32.not_lt.mpr a)]
        rfl
      · rw [if_neg a, if_pos (Int32.not_le.mp a)]
theorem mo_1 (G : Gd M) (v n : Int32) (b : Bool) (σ : nS) : s_Mo_barred_5_1 v n b (M σ) = if v < σ 5 1 ∨ σ 5 1 + σ 10 1 ≤ v then s_Mo_barred_5_2 v n b (M σ) else s_Mo_barred_5_2 v n (vl σ (if n = 3 then 1 else n) (if n = 3 then true else false) 1) (M σ) := by
  unfold s_Mo_barred_5_1 s_Mo_barred_84_1 s_Mo_barred_59_1 s_Mo_barred_83_1 s_Mo_barred_84_1
  rw [gdk G σ (k := 5) (by decide) (by decide), gdk G σ (k := 6) (by decide) (by decide), gdk G σ (k := 7) (by decide) (by decide), G.2.2.2.2 σ, ite_or]
  by_cases h : v < σ 5 1 ∨ σ 5 1 + σ 10 1 ≤ v
  · rw [if_pos h, if_pos h]
  · rw [if_neg h, if_neg h]
    unfold vl
    by_cases c3 : n = 3
    · rw [if_pos c3, if_pos c3, if_pos c3]
      simp only [if_true]
      by_cases a : σ 6 1 < 1
      · rw [if_pos a, if_pos a]
      · rw [if_neg a, if_neg a]
        by_cases c : σ 7 1 = 0
        · rw [if_pos c, if_pos c]
        · rw [if_neg c, if_neg c]
    · rw [if_neg c3, if_neg c3, if_neg c3]
      by_cases a : n ≤ σ 6 1
      · rw [if_pos a, if_neg (Int32.not_lt.mpr a)]
        rfl
      · rw [if_neg a, if_pos (Int32.not_le.mp a)]
theorem mo_0 (G : Gd M) (v n : Int32) (σ : nS) : s_Mo_barred_5_0 v n (M σ) = if v < σ 5 0 ∨ σ 5 0 + σ 10 0 ≤ v then s_Mo_barred_5_1 v n false (M σ) else s_Mo_barred_5_1 v n (vl σ (if n = 3 then 1 else n) (if n = 3 then true else false) 0) (M σ) := by
  unfold s_Mo_barred_5_0 s_Mo_barred_84_0 s_Mo_barred_59_0 s_Mo_barred_83_0 s_Mo_barred_84_0
  rw [gdk G σ (k := 5) (by decide) (by decide), gdk G σ (k := 6) (by decide) (by decide), gdk G σ (k := 7) (by decide) (by decide), G.2.2.2.2 σ, ite_or]
  by_cases h : v < σ 5 0 ∨ σ 5 0 + σ 10 0 ≤ v
  · rw [if_pos h, if_pos h]
  · rw [if_neg h, if_neg h]
    unfold vl
    by_cases c3 : n = 3
    · rw [if_pos c3, if_pos c3, if_pos c3]
      simp only [if_true]
      by_cases a : σ 6 0 < 1
      · rw [if_pos a, if_pos a]
      · rw [if_neg a, if_neg a]
        by_cases c : σ 7 0 = 0
        · rw [if_pos c, if_pos c]
        · rw [if_neg c, if_neg c]
    · rw [if_neg c3, if_neg c3, if_neg c3]
      by_cases a : n ≤ σ 6 0
      · rw [if_pos a, if_neg (Int32.not_lt.mpr a)]
        rfl
      · rw [if_neg a, if_pos (Int32.not_le.mp a)]
theorem q_bars (G : Gd M) (v n : Int32) (σ : nS) : s_Mo_barred v n (M σ) = s_Ar_bars v (if n = 3 then 1 else n) (if n = 3 then true else false) σ := by
  unfold s_Mo_barred s_Ar_bars
  rw [mo_0 G, mo_1 G, mo_1 G, mo_2 G, mo_2 G, mo_2 G, ar_3, ar_2, ar_1, ar_0]
  simp only [mo_3 G]
  unfold s_Mo_barred_5_4 s_Ar_bars_3_m1
  by_cases h0 : v < σ 5 0 ∨ σ 5 0 + σ 10 0 ≤ v <;> by_cases h1 : v < σ 5 1 ∨ σ 5 1 + σ 10 1 ≤ v <;> by_cases h2 : v < σ 5 2 ∨ σ 5 2 + σ 10 2 ≤ v <;> by_cases h3 : v < σ 5 3 ∨ σ 5 3 + σ 10 3 ≤ v <;> simp only [h0, h1, h2, h3, if_true, if_false]
theorem q_bars1 (G : Gd M) (v n : Int32) (h : n ≠ 3) (σ : nS) : s_Mo_barred v n (M σ) = s_Ar_bars v n false σ := by
  rw [q_bars G, if_neg h, if_neg h]
theorem q_bars3 (G : Gd M) (v : Int32) (σ : nS) : s_Mo_barred v 3 (M σ) = s_Ar_bars v 1 true σ := by
  rw [q_bars G, if_pos rfl, if_pos rfl]
theorem fo32_9 (v c n : Int32) (σ : nS) : s_Mo_faultOf_32_9 v c n (M σ) = s_N_faultAlong_36_9 v c n σ := rfl
theorem fo32_8 (G : Gd M) (v c n : Int32) (h : n ≠ 3) (σ : nS) : s_Mo_faultOf_32_8 v c n (M σ) = s_N_faultAlong_36_8 v c n σ := by
  unfold s_Mo_faultOf_32_8 s_N_faultAlong_36_8
  rw [q_bars1 G _ _ h, fo32_9 v c n σ]
theorem fo32_7 (G : Gd M) (v c n : Int32) (h : n ≠ 3) (σ : nS) : s_Mo_faultOf_32_7 v c n (M σ) = s_N_faultAlong_36_7 v c n σ := by
  unfold s_Mo_faultOf_32_7 s_N_faultAlong_36_7
  rw [q_bars1 G _ _ h, fo32_8 G v c n h σ]
theorem fo32_6 (G : Gd M) (v c n : Int32) (h : n ≠ 3) (σ : nS) : s_Mo_faultOf_32_6 v c n (M σ) = s_N_faultAlong_36_6 v c n σ := by
  unfold s_Mo_faultOf_32_6 s_N_faultAlong_36_6
  rw [q_bars1 G _ _ h, fo32_7 G v c n h σ]
theorem fo32_5 (G : Gd M) (v c n : Int32) (h : n ≠ 3) (σ : nS) : s_Mo_faultOf_32_5 v c n (M σ) = s_N_faultAlong_36_5 v c n σ := by
  unfold s_Mo_faultOf_32_5 s_N_faultAlong_36_5
  rw [q_bars1 G _ _ h, fo32_6 G v c n h σ]
theorem fo32_4 (G : Gd M) (v c n : Int32) (h : n ≠ 3) (σ : nS) : s_Mo_faultOf_32_4 v c n (M σ) = s_N_faultAlong_36_4 v c n σ := by
  unfold s_Mo_faultOf_32_4 s_N_faultAlong_36_4
  rw [q_bars1 G _ _ h, fo32_5 G v c n h σ]
theorem fo32_3 (G : Gd M) (v c n : Int32) (h : n ≠ 3) (σ : nS) : s_Mo_faultOf_32_3 v c n (M σ) = s_N_faultAlong_36_3 v c n σ := by
  unfold s_Mo_faultOf_32_3 s_N_faultAlong_36_3
  rw [q_bars1 G _ _ h, fo32_4 G v c n h σ]
theorem fo32_2 (G : Gd M) (v c n : Int32) (h : n ≠ 3) (σ : nS) : s_Mo_faultOf_32_2 v c n (M σ) = s_N_faultAlong_36_2 v c n σ := by
  unfold s_Mo_faultOf_32_2 s_N_faultAlong_36_2
  rw [q_bars1 G _ _ h, fo32_3 G v c n h σ]
theorem fo32_1 (G : Gd M) (v c n : Int32) (h : n ≠ 3) (σ : nS) : s_Mo_faultOf_32_1 v c n (M σ) = s_N_faultAlong_36_1 v c n σ := by
  unfold s_Mo_faultOf_32_1 s_N_faultAlong_36_1
  rw [q_bars1 G _ _ h, fo32_2 G v c n h σ]
theorem fo32_0 (G : Gd M) (v c n : Int32) (h : n ≠ 3) (σ : nS) : s_Mo_faultOf_32_0 v c n (M σ) = s_N_faultAlong_36_0 v c n σ := by
  unfold s_Mo_faultOf_32_0 s_N_faultAlong_36_0
  rw [q_bars1 G _ _ h, fo32_1 G v c n h σ]
theorem fo3_9 (G : Gd M) (v c n : Int32) (h : n ≠ 3) (σ : nS) : s_Mo_faultOf_3_9 v c n (M σ) = s_N_faultAlong_3_9 v c n σ := fo32_0 G v c n h σ
theorem fo3_8 (G : Gd M) (v c n : Int32) (h : n ≠ 3) (σ : nS) : s_Mo_faultOf_3_8 v c n (M σ) = s_N_faultAlong_3_8 v c n σ := by
  unfold s_Mo_faultOf_3_8 s_N_faultAlong_3_8
  rw [q_isWord, fo32_0 G v c n h σ, fo3_9 G v c n h σ]
theorem fo3_7 (G : Gd M) (v c n : Int32) (h : n ≠ 3) (σ : nS) : s_Mo_faultOf_3_7 v c n (M σ) = s_N_faultAlong_3_7 v c n σ := by
  unfold s_Mo_faultOf_3_7 s_N_faultAlong_3_7
  rw [q_isWord, fo32_0 G v c n h σ, fo3_8 G v c n h σ]
theorem fo3_6 (G : Gd M) (v c n : Int32) (h : n ≠ 3) (σ : nS) : s_Mo_faultOf_3_6 v c n (M σ) = s_N_faultAlong_3_6 v c n σ := by
  unfold s_Mo_faultOf_3_6 s_N_faultAlong_3_6
  rw [q_isWord, fo32_0 G v c n h σ, fo3_7 G v c n h σ]
theorem fo3_5 (G : Gd M) (v c n : Int32) (h : n ≠ 3) (σ : nS) : s_Mo_faultOf_3_5 v c n (M σ) = s_N_faultAlong_3_5 v c n σ := by
  unfold s_Mo_faultOf_3_5 s_N_faultAlong_3_5
  rw [q_isWord, fo32_0 G v c n h σ, fo3_6 G v c n h σ]
theorem fo3_4 (G : Gd M) (v c n : Int32) (h : n ≠ 3) (σ : nS) : s_Mo_faultOf_3_4 v c n (M σ) = s_N_faultAlong_3_4 v c n σ := by
  unfold s_Mo_faultOf_3_4 s_N_faultAlong_3_4
  rw [q_isWord, fo32_0 G v c n h σ, fo3_5 G v c n h σ]
theorem fo3_3 (G : Gd M) (v c n : Int32) (h : n ≠ 3) (σ : nS) : s_Mo_faultOf_3_3 v c n (M σ) = s_N_faultAlong_3_3 v c n σ := by
  unfold s_Mo_faultOf_3_3 s_N_faultAlong_3_3
  rw [q_isWord, fo32_0 G v c n h σ, fo3_4 G v c n h σ]
theorem fo3_2 (G : Gd M) (v c n : Int32) (h : n ≠ 3) (σ : nS) : s_Mo_faultOf_3_2 v c n (M σ) = s_N_faultAlong_3_2 v c n σ := by
  unfold s_Mo_faultOf_3_2 s_N_faultAlong_3_2
  rw [q_isWord, fo32_0 G v c n h σ, fo3_3 G v c n h σ]
theorem fo3_1 (G : Gd M) (v c n : Int32) (h : n ≠ 3) (σ : nS) : s_Mo_faultOf_3_1 v c n (M σ) = s_N_faultAlong_3_1 v c n σ := by
  unfold s_Mo_faultOf_3_1 s_N_faultAlong_3_1
  rw [q_isWord, fo32_0 G v c n h σ, fo3_2 G v c n h σ]
theorem fo3_0 (G : Gd M) (v c n : Int32) (h : n ≠ 3) (σ : nS) : s_Mo_faultOf_3_0 v c n (M σ) = s_N_faultAlong_3_0 v c n σ := by
  unfold s_Mo_faultOf_3_0 s_N_faultAlong_3_0
  rw [q_isWord, fo32_0 G v c n h σ, fo3_1 G v c n h σ]
theorem q_fault (G : Gd M) (v c n : Int32) (h : n ≠ 3) (σ : nS) : s_Mo_faultOf v c n (M σ) = s_N_faultAlong v c n σ := fo3_0 G v c n h σ
theorem fa_range (v c n : Int32) (σ : nS) : s_N_faultAlong v c n σ = 0 ∨ s_N_faultAlong v c n σ = 4 ∨ s_N_faultAlong v c n σ = 5 := by
  have a : ∀ F : Int32, (F = 0 ∨ F = 4 ∨ F = 5) → ∀ (p q : Prop) [Decidable p] [Decidable q], (if p then (0 : Int32) else if q then 4 else F) = 0 ∨ (if p then (0 : Int32) else if q then 4 else F) = 4 ∨ (if p then (0 : Int32) else if q then 4 else F) = 5 := by
    intro F h p q _ _
    by_cases hp : p <;> by_cases hq : q <;> simp [hp, hq, h]
  have b : ∀ E F : Int32, (E = 0 ∨ E = 4 ∨ E = 5) → (F = 0 ∨ F = 4 ∨ F = 5) → ∀ (p q : Prop) [Decidable p] [Decidable q], (if p then E else if q then F else 5) = 0 ∨ (if p then E else if q then F else 5) = 4 ∨ (if p then E else if q then F else 5) = 5 := by
    intro E F h1 h2 p q _ _
    by_cases hp : p <;> by_cases hq : q <;> simp [hp, hq, h1, h2]
  have z9 : s_N_faultAlong_36_9 v c n σ = 0 ∨ s_N_faultAlong_36_9 v c n σ = 4 ∨ s_N_faultAlong_36_9 v c n σ = 5 := Or.inl rfl
  have z8 : s_N_faultAlong_36_8 v c n σ = 0 ∨ s_N_faultAlong_36_8 v c n σ = 4 ∨ s_N_faultAlong_36_8 v c n σ = 5 := a _ z9 _ _
  have z7 : s_N_faultAlong_36_7 v c n σ = 0 ∨ s_N_faultAlong_36_7 v c n σ = 4 ∨ s_N_faultAlong_36_7 v c n σ = 5 := a _ z8 _ _
  have z6 : s_N_faultAlong_36_6 v c n σ = 0 ∨ s_N_faultAlong_36_6 v c n σ = 4 ∨ s_N_faultAlong_36_6 v c n σ = 5 := a _ z7 _ _
  have z5 : s_N_faultAlong_36_5 v c n σ = 0 ∨ s_N_faultAlong_36_5 v c n σ = 4 ∨ s_N_faultAlong_36_5 v c n σ = 5 := a _ z6 _ _
  have z4 : s_N_faultAlong_36_4 v c n σ = 0 ∨ s_N_faultAlong_36_4 v c n σ = 4 ∨ s_N_faultAlong_36_4 v c n σ = 5 := a _ z5 _ _
  have z3 : s_N_faultAlong_36_3 v c n σ = 0 ∨ s_N_faultAlong_36_3 v c n σ = 4 ∨ s_N_faultAlong_36_3 v c n σ = 5 := a _ z4 _ _
  have z2 : s_N_faultAlong_36_2 v c n σ = 0 ∨ s_N_faultAlong_36_2 v c n σ = 4 ∨ s_N_faultAlong_36_2 v c n σ = 5 := a _ z3 _ _
  have z1 : s_N_faultAlong_36_1 v c n σ = 0 ∨ s_N_faultAlong_36_1 v c n σ = 4 ∨ s_N_faultAlong_36_1 v c n σ = 5 := a _ z2 _ _
  have z0 : s_N_faultAlong_36_0 v c n σ = 0 ∨ s_N_faultAlong_36_0 v c n σ = 4 ∨ s_N_faultAlong_36_0 v c n σ = 5 := a _ z1 _ _
  have y9 : s_N_faultAlong_3_9 v c n σ = 0 ∨ s_N_faultAlong_3_9 v c n σ = 4 ∨ s_N_faultAlong_3_9 v c n σ = 5 := z0
  have y8 : s_N_faultAlong_3_8 v c n σ = 0 ∨ s_N_faultAlong_3_8 v c n σ = 4 ∨ s_N_faultAlong_3_8 v c n σ = 5 := b _ _ z0 y9 _ _
  have y7 : s_N_faultAlong_3_7 v c n σ = 0 ∨ s_N_faultAlong_3_7 v c n σ = 4 ∨ s_N_faultAlong_3_7 v c n σ = 5 := b _ _ z0 y8 _ _
  have y6 : s_N_faultAlong_3_6 v c n σ = 0 ∨ s_N_faultAlong_3_6 v c n σ = 4 ∨ s_N_faultAlong_3_6 v c n σ = 5 := b _ _ z0 y7 _ _
  have y5 : s_N_faultAlong_3_5 v c n σ = 0 ∨ s_N_faultAlong_3_5 v c n σ = 4 ∨ s_N_faultAlong_3_5 v c n σ = 5 := b _ _ z0 y6 _ _
  have y4 : s_N_faultAlong_3_4 v c n σ = 0 ∨ s_N_faultAlong_3_4 v c n σ = 4 ∨ s_N_faultAlong_3_4 v c n σ = 5 := b _ _ z0 y5 _ _
  have y3 : s_N_faultAlong_3_3 v c n σ = 0 ∨ s_N_faultAlong_3_3 v c n σ = 4 ∨ s_N_faultAlong_3_3 v c n σ = 5 := b _ _ z0 y4 _ _
  have y2 : s_N_faultAlong_3_2 v c n σ = 0 ∨ s_N_faultAlong_3_2 v c n σ = 4 ∨ s_N_faultAlong_3_2 v c n σ = 5 := b _ _ z0 y3 _ _
  have y1 : s_N_faultAlong_3_1 v c n σ = 0 ∨ s_N_faultAlong_3_1 v c n σ = 4 ∨ s_N_faultAlong_3_1 v c n σ = 5 := b _ _ z0 y2 _ _
  have y0 : s_N_faultAlong_3_0 v c n σ = 0 ∨ s_N_faultAlong_3_0 v c n σ = 4 ∨ s_N_faultAlong_3_0 v c n σ = 5 := b _ _ z0 y1 _ _
  exact y0
/-- no fault: every word is there -/
theorem fa_words (v c n : Int32) (σ : nS) (hf : s_N_faultAlong v c n σ = 0) : ∀ k : Nat, k < 9 → nI k < c → s_Me_holdsWord (v + nI (4 * k)) = true := by
  have st : ∀ (E F : Int32) (p q : Prop) [Decidable p] [Decidable q], (if p then E else if q then F else 5) = 0 → ¬ p → q ∧ F = 0 := by
    intro E F p q _ _ h hp
    rw [if_neg hp] at h
    by_cases hq : q
    · rw [if_pos hq] at h; exact ⟨hq, h⟩
    · rw [if_neg hq] at h; exact absurd h (by decide)
  intro k hk hc
  have mono : ∀ j : Nat, j ≤ k → ¬ c ≤ nI j := fun j hj q => absurd (Int32.lt_of_lt_of_le hc q) (nI_nlt hj (by omega))
  have f0 : s_N_faultAlong_3_0 v c n σ = 0 := hf
  obtain ⟨w0, f1⟩ := st _ _ _ _ f0 (mono 0 (by omega))
  by_cases e0 : k = 0
  · subst e0; exact w0
  obtain ⟨w1, f2⟩ := st _ _ _ _ f1 (mono 1 (by omega))
  by_cases e1 : k = 1
  · subst e1; exact w1
  obtain ⟨w2, f3⟩ := st _ _ _ _ f2 (mono 2 (by omega))
  by_cases e2 : k = 2
  · subst e2; exact w2
  obtain ⟨w3, f4⟩ := st _ _ _ _ f3 (mono 3 (by omega))
  by_cases e3 : k = 3
  · subst e3; exact w3
  obtain ⟨w4, f5⟩ := st _ _ _ _ f4 (mono 4 (by omega))
  by_cases e4 : k = 4
  · subst e4; exact w4
  obtain ⟨w5, f6⟩ := st _ _ _ _ f5 (mono 5 (by omega))
  by_cases e5 : k = 5
  · subst e5; exact w5
  obtain ⟨w6, f7⟩ := st _ _ _ _ f6 (mono 6 (by omega))
  by_cases e6 : k = 6
  · subst e6; exact w6
  obtain ⟨w7, f8⟩ := st _ _ _ _ f7 (mono 7 (by omega))
  by_cases e7 : k = 7
  · subst e7; exact w7
  obtain ⟨w8, f9⟩ := st _ _ _ _ f8 (mono 8 (by omega))
  by_cases e8 : k = 8
  · subst e8; exact w8
  omega
end MEM
