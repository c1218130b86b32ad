-- the rows that class and reference share
def RelC (σ τ : nS) : Prop := (∀ k, 1 ≤ k → k ≤ 7 → τ k = σ k) ∧ ∀ j, j < 15 → τ 8 j = σ 8 j
theorem gr_eq {σ τ : nS} (h : RelC σ τ) (e : Int32) : s_Mo_group (τ 4 e.toNatClampNeg) τ = s_Ex_group e σ := by
  unfold s_Mo_group s_Ex_group
  rw [h.1 4 (by decide) (by decide), h.2 0 (by decide)]
theorem fl_eq {σ τ : nS} (h : RelC σ τ) (hf : 0 ≤ σ 8 1) : s_Mo_group (τ 8 1) τ = (σ 8 1) >>> ((σ 8 0) &&& 31) := by
  unfold s_Mo_group
  rw [h.2 0 (by decide), h.2 1 (by decide), if_pos hf]
theorem lv_92 {σ τ : nS} (h : RelC σ τ) (v1 : Int32) : s_Mo_level_92 v1 τ = s_Ex_level_70 v1 σ := by
  unfold s_Mo_level_92 s_Ex_level_70 s_Mo_level_108
  rw [h.2 3 (by decide)]
  by_cases a : σ 8 3 = 0
  · rw [if_pos a, if_pos a]
  · rw [if_neg a, if_neg a]
    by_cases b : v1 ≤ -1
    · rw [if_pos b, if_neg (Int32.not_lt.mpr b)]
    · rw [if_neg b, if_pos (Int32.not_le.mp b)]
theorem lv_79 {σ τ : nS} (h : RelC σ τ) (v1 : Int32) : s_Mo_level_79 v1 τ = s_Ex_level_57 v1 σ := by
  unfold s_Mo_level_79 s_Ex_level_57
  rw [h.2 2 (by decide)]
  by_cases a : σ 8 2 = 0
  · rw [if_pos a, if_pos a]; exact lv_92 h v1
  · rw [if_neg a, if_neg a]
    by_cases b : v1 ≤ 0
    · rw [if_pos b, if_neg (Int32.not_lt.mpr b)]; exact lv_92 h v1
    · rw [if_neg b, if_pos (Int32.not_le.mp b)]; exact lv_92 h 0
theorem lv_16 {σ τ : nS} (h : RelC σ τ) (hf : 0 ≤ σ 8 1) (v1 : Int32) : s_Mo_level_5_16 v1 τ = s_Ex_level_5_16 v1 σ := by
  unfold s_Mo_level_5_16 s_Ex_level_5_16
  rw [fl_eq h hf, h.2 1 (by decide)]
  by_cases a : σ 8 1 = 0
  · rw [if_pos a, if_pos a]; exact lv_79 h v1
  · rw [if_neg a, if_neg a]
    by_cases b : v1 ≤ (σ 8 1) >>> ((σ 8 0) &&& 31)
    · rw [if_pos b, if_neg (Int32.not_lt.mpr b)]; exact lv_79 h v1
    · rw [if_neg b, if_pos (Int32.not_le.mp b)]; exact lv_79 h _
theorem lv_15 {σ τ : nS} (h : RelC σ τ) (hf : 0 ≤ σ 8 1) (v1 : Int32) : s_Mo_level_5_15 v1 τ = s_Ex_level_5_15 v1 σ := by
  have g : s_Mo_group (τ 4 15) τ = s_Ex_group 15 σ := gr_eq h 15
  unfold s_Mo_level_5_15 s_Ex_level_5_15 s_Mo_level_45_15 s_Ex_level_30_15
  rw [g, h.1 3 (by decide) (by decide)]
  by_cases a : σ 3 15 = 0
  · rw [if_pos a, if_pos a]; exact lv_16 h hf v1
  · rw [if_neg a, if_neg a]
    by_cases b : v1 ≤ s_Ex_group 15 σ
    · rw [if_pos b, if_neg (Int32.not_lt.mpr b)]; exact lv_16 h hf v1
    · rw [if_neg b, if_pos (Int32.not_le.mp b)]; exact lv_16 h hf _
theorem lv_14 {σ τ : nS} (h : RelC σ τ) (hf : 0 ≤ σ 8 1) (v1 : Int32) : s_Mo_level_5_14 v1 τ = s_Ex_level_5_14 v1 σ := by
  have g : s_Mo_group (τ 4 14) τ = s_Ex_group 14 σ := gr_eq h 14
  unfold s_Mo_level_5_14 s_Ex_level_5_14 s_Mo_level_45_14 s_Ex_level_30_14
  rw [g, h.1 3 (by decide) (by decide)]
  by_cases a : σ 3 14 = 0
  · rw [if_pos a, if_pos a]; exact lv_15 h hf v1
  · rw [if_neg a, if_neg a]
    by_cases b : v1 ≤ s_Ex_group 14 σ
    · rw [if_pos b, if_neg (Int32.not_lt.mpr b)]; exact lv_15 h hf v1
    · rw [if_neg b, if_pos (Int32.not_le.mp b)]; exact lv_15 h hf _
theorem lv_13 {σ τ : nS} (h : RelC σ τ) (hf : 0 ≤ σ 8 1) (v1 : Int32) : s_Mo_level_5_13 v1 τ = s_Ex_level_5_13 v1 σ := by
  have g : s_Mo_group (τ 4 13) τ = s_Ex_group 13 σ := gr_eq h 13
  unfold s_Mo_level_5_13 s_Ex_level_5_13 s_Mo_level_45_13 s_Ex_level_30_13
  rw [g, h.1 3 (by decide) (by decide)]
  by_cases a : σ 3 13 = 0
  · rw [if_pos a, if_pos a]; exact lv_14 h hf v1
  · rw [if_neg a, if_neg a]
    by_cases b : v1 ≤ s_Ex_group 13 σ
    · rw [if_pos b, if_neg (Int32.not_lt.mpr b)]; exact lv_14 h hf v1
    · rw [if_neg b, if_pos (Int32.not_le.mp b)]; exact lv_14 h hf _
theorem lv_12 {σ τ : nS} (h : RelC σ τ) (hf : 0 ≤ σ 8 1) (v1 : Int32) : s_Mo_level_5_12 v1 τ = s_Ex_level_5_12 v1 σ := by
  have g : s_Mo_group (τ 4 12) τ = s_Ex_group 12 σ := gr_eq h 12
  unfold s_Mo_level_5_12 s_Ex_level_5_12 s_Mo_level_45_12 s_Ex_level_30_12
  rw [g, h.1 3 (by decide) (by decide)]
  by_cases a : σ 3 12 = 0
  · rw [if_pos a, if_pos a]; exact lv_13 h hf v1
  · rw [if_neg a, if_neg a]
    by_cases b : v1 ≤ s_Ex_group 12 σ
    · rw [if_pos b, if_neg (Int32.not_lt.mpr b)]; exact lv_13 h hf v1
    · rw [if_neg b, if_pos (Int32.not_le.mp b)]; exact lv_13 h hf _
theorem lv_11 {σ τ : nS} (h : RelC σ τ) (hf : 0 ≤ σ 8 1) (v1 : Int32) : s_Mo_level_5_11 v1 τ = s_Ex_level_5_11 v1 σ := by
  have g : s_Mo_group (τ 4 11) τ = s_Ex_group 11 σ := gr_eq h 11
  unfold s_Mo_level_5_11 s_Ex_level_5_11 s_Mo_level_45_11 s_Ex_level_30_11
  rw [g, h.1 3 (by decide) (by decide)]
  by_cases a : σ 3 11 = 0
  · rw [if_pos a, if_pos a]; exact lv_12 h hf v1
  · rw [if_neg a, if_neg a]
    by_cases b : v1 ≤ s_Ex_group 11 σ
    · rw [if_pos b, if_neg (Int32.not_lt.mpr b)]; exact lv_12 h hf v1
    · rw [if_neg b, if_pos (Int32.not_le.mp b)]; exact lv_12 h hf _
theorem lv_10 {σ τ : nS} (h : RelC σ τ) (hf : 0 ≤ σ 8 1) (v1 : Int32) : s_Mo_level_5_10 v1 τ = s_Ex_level_5_10 v1 σ := by
  have g : s_Mo_group (τ 4 10) τ = s_Ex_group 10 σ := gr_eq h 10
  unfold s_Mo_level_5_10 s_Ex_level_5_10 s_Mo_level_45_10 s_Ex_level_30_10
  rw [g, h.1 3 (by decide) (by decide)]
  by_cases a : σ 3 10 = 0
  · rw [if_pos a, if_pos a]; exact lv_11 h hf v1
  · rw [if_neg a, if_neg a]
    by_cases b : v1 ≤ s_Ex_group 10 σ
    · rw [if_pos b, if_neg (Int32.not_lt.mpr b)]; exact lv_11 h hf v1
    · rw [if_neg b, if_pos (Int32.not_le.mp b)]; exact lv_11 h hf _
theorem lv_9 {σ τ : nS} (h : RelC σ τ) (hf : 0 ≤ σ 8 1) (v1 : Int32) : s_Mo_level_5_9 v1 τ = s_Ex_level_5_9 v1 σ := by
  have g : s_Mo_group (τ 4 9) τ = s_Ex_group 9 σ := gr_eq h 9
  unfold s_Mo_level_5_9 s_Ex_level_5_9 s_Mo_level_45_9 s_Ex_level_30_9
  rw [g, h.1 3 (by decide) (by decide)]
  by_cases a : σ 3 9 = 0
  · rw [if_pos a, if_pos a]; exact lv_10 h hf v1
  · rw [if_neg a, if_neg a]
    by_cases b : v1 ≤ s_Ex_group 9 σ
    · rw [if_pos b, if_neg (Int32.not_lt.mpr b)]; exact lv_10 h hf v1
    · rw [if_neg b, if_pos (Int32.not_le.mp b)]; exact lv_10 h hf _
theorem lv_8 {σ τ : nS} (h : RelC σ τ) (hf : 0 ≤ σ 8 1) (v1 : Int32) : s_Mo_level_5_8 v1 τ = s_Ex_level_5_8 v1 σ := by
  have g : s_Mo_group (τ 4 8) τ = s_Ex_group 8 σ := gr_eq h 8
  unfold s_Mo_level_5_8 s_Ex_level_5_8 s_Mo_level_45_8 s_Ex_level_30_8
  rw [g, h.1 3 (by decide) (by decide)]
  by_cases a : σ 3 8 = 0
  · rw [if_pos a, if_pos a]; exact lv_9 h hf v1
  · rw [if_neg a, if_neg a]
    by_cases b : v1 ≤ s_Ex_group 8 σ
    · rw [if_pos b, if_neg (Int32.not_lt.mpr b)]; exact lv_9 h hf v1
    · rw [if_neg b, if_pos (Int32.not_le.mp b)]; exact lv_9 h hf _
theorem lv_7 {σ τ : nS} (h : RelC σ τ) (hf : 0 ≤ σ 8 1) (v1 : Int32) : s_Mo_level_5_7 v1 τ = s_Ex_level_5_7 v1 σ := by
  have g : s_Mo_group (τ 4 7) τ = s_Ex_group 7 σ := gr_eq h 7
  unfold s_Mo_level_5_7 s_Ex_level_5_7 s_Mo_level_45_7 s_Ex_level_30_7
  rw [g, h.1 3 (by decide) (by decide)]
  by_cases a : σ 3 7 = 0
  · rw [if_pos a, if_pos a]; exact lv_8 h hf v1
  · rw [if_neg a, if_neg a]
    by_cases b : v1 ≤ s_Ex_group 7 σ
    · rw [if_pos b, if_neg (Int32.not_lt.mpr b)]; exact lv_8 h hf v1
    · rw [if_neg b, if_pos (Int32.not_le.mp b)]; exact lv_8 h hf _
theorem lv_6 {σ τ : nS} (h : RelC σ τ) (hf : 0 ≤ σ 8 1) (v1 : Int32) : s_Mo_level_5_6 v1 τ = s_Ex_level_5_6 v1 σ := by
  have g : s_Mo_group (τ 4 6) τ = s_Ex_group 6 σ := gr_eq h 6
  unfold s_Mo_level_5_6 s_Ex_level_5_6 s_Mo_level_45_6 s_Ex_level_30_6
  rw [g, h.1 3 (by decide) (by decide)]
  by_cases a : σ 3 6 = 0
  · rw [if_pos a, if_pos a]; exact lv_7 h hf v1
  · rw [if_neg a, if_neg a]
    by_cases b : v1 ≤ s_Ex_group 6 σ
    · rw [if_pos b, if_neg (Int32.not_lt.mpr b)]; exact lv_7 h hf v1
    · rw [if_neg b, if_pos (Int32.not_le.mp b)]; exact lv_7 h hf _
theorem lv_5 {σ τ : nS} (h : RelC σ τ) (hf : 0 ≤ σ 8 1) (v1 : Int32) : s_Mo_level_5_5 v1 τ = s_Ex_level_5_5 v1 σ := by
  have g : s_Mo_group (τ 4 5) τ = s_Ex_group 5 σ := gr_eq h 5
  unfold s_Mo_level_5_5 s_Ex_level_5_5 s_Mo_level_45_5 s_Ex_level_30_5
  rw [g, h.1 3 (by decide) (by decide)]
  by_cases a : σ 3 5 = 0
  · rw [if_pos a, if_pos a]; exact lv_6 h hf v1
  · rw [if_neg a, if_neg a]
    by_cases b : v1 ≤ s_Ex_group 5 σ
    · rw [if_pos b, if_neg (Int32.not_lt.mpr b)]; exact lv_6 h hf v1
    · rw [if_neg b, if_pos (Int32.not_le.mp b)]; exact lv_6 h hf _
theorem lv_4 {σ τ : nS} (h : RelC σ τ) (hf : 0 ≤ σ 8 1) (v1 : Int32) : s_Mo_level_5_4 v1 τ = s_Ex_level_5_4 v1 σ := by
  have g : s_Mo_group (τ 4 4) τ = s_Ex_group 4 σ := gr_eq h 4
  unfold s_Mo_level_5_4 s_Ex_level_5_4 s_Mo_level_45_4 s_Ex_level_30_4
  rw [g, h.1 3 (by decide) (by decide)]
  by_cases a : σ 3 4 = 0
  · rw [if_pos a, if_pos a]; exact lv_5 h hf v1
  · rw [if_neg a, if_neg a]
    by_cases b : v1 ≤ s_Ex_group 4 σ
    · rw [if_pos b, if_neg (Int32.not_lt.mpr b)]; exact lv_5 h hf v1
    · rw [if_neg b, if_pos (Int32.not_le.mp b)]; exact lv_5 h hf _
theorem lv_3 {σ τ : nS} (h : RelC σ τ) (hf : 0 ≤ σ 8 1) (v1 : Int32) : s_Mo_level_5_3 v1 τ = s_Ex_level_5_3 v1 σ := by
  have g : s_Mo_group (τ 4 3) τ = s_Ex_group 3 σ := gr_eq h 3
  unfold s_Mo_level_5_3 s_Ex_level_5_3 s_Mo_level_45_3 s_Ex_level_30_3
  rw [g, h.1 3 (by decide) (by decide)]
  by_cases a : σ 3 3 = 0
  · rw [if_pos a, if_pos a]; exact lv_4 h hf v1
  · rw [if_neg a, if_neg a]
    by_cases b : v1 ≤ s_Ex_group 3 σ
    · rw [if_pos b, if_neg (Int32.not_lt.mpr b)]; exact lv_4 h hf v1
    · rw [if_neg b, if_pos (Int32.not_le.mp b)]; exact lv_4 h hf _
theorem lv_2 {σ τ : nS} (h : RelC σ τ) (hf : 0 ≤ σ 8 1) : s_Mo_level_5_2 τ = s_Ex_level_5_2 σ := by
  have g : s_Mo_group (τ 4 2) τ = s_Ex_group 2 σ := gr_eq h 2
  unfold s_Mo_level_5_2 s_Ex_level_5_2 s_Mo_level_45_2 s_Ex_level_30_2
  rw [g, h.1 3 (by decide) (by decide)]
  by_cases a : σ 3 2 = 0
  · rw [if_pos a, if_pos a]; exact lv_3 h hf 8
  · rw [if_neg a, if_neg a]
    by_cases b : 8 ≤ s_Ex_group 2 σ
    · rw [if_pos b, if_neg (Int32.not_lt.mpr b)]; exact lv_3 h hf 8
    · rw [if_neg b, if_pos (Int32.not_le.mp b)]; exact lv_3 h hf _
theorem level_eq {σ τ : nS} (h : RelC σ τ) (hf : 0 ≤ σ 8 1) : s_Mo_level τ = s_Ex_level σ := lv_2 h hf
-- the next exception: the least of priority and number
def bt9 (p : Nat → Int32) (x y : Nat) : Bool := decide (p y < p x) || (decide (p y = p x) && decide (y < x))
def lm (p : Nat → Int32) (x y : Nat) : Nat := if x = 0 then y else if y = 0 then x else if bt9 p x y then y else x
def cd (σ : nS) (e : Nat) : Nat := if σ 2 e = 0 then 0 else if σ 1 e = 0 then 0 else e
theorem lm_comm (p : Nat → Int32) (x y : Nat) : lm p x y = lm p y x := by
  unfold lm bt9
  by_cases hx : x = 0 <;> by_cases hy : y = 0 <;> simp only [hx, hy, if_true, if_false, Bool.or_eq_true, Bool.and_eq_true, decide_eq_true_eq, Int32.lt_iff_toInt_lt, ← Int32.toInt_inj]
  by_cases a : (p y).toInt < (p x).toInt ∨ (p y).toInt = (p x).toInt ∧ y < x <;> by_cases b : (p x).toInt < (p y).toInt ∨ (p x).toInt = (p y).toInt ∧ x < y <;> simp only [a, b, if_true, if_false] <;> omega
theorem lm_assoc (p : Nat → Int32) (x y z : Nat) : lm p (lm p x y) z = lm p x (lm p y z) := by
  unfold lm bt9
  by_cases hx : x = 0 <;> by_cases hy : y = 0 <;> by_cases hz : z = 0 <;> simp only [hx, hy, hz, if_true, if_false, ite_self, Bool.or_eq_true, Bool.and_eq_true, decide_eq_true_eq, Int32.lt_iff_toInt_lt, ← Int32.toInt_inj]
  all_goals (try rfl)
  all_goals (repeat' split)
  all_goals (first | rfl | omega)
theorem lm_0 (p : Nat → Int32) (x : Nat) : lm p x 0 = x := by
  unfold lm
  by_cases hx : x = 0 <;> simp [hx]
def dA (σ : nS) : Nat → Nat → Nat
  | 0, x => x
  | n + 1, x => dA σ n (lm (σ 4) x (cd σ (15 - n)))
def dD (σ : nS) : Nat → Nat → Nat
  | 0, x => x
  | n + 1, x => dD σ n (lm (σ 4) x (cd σ (n + 2)))
theorem st_asc {σ : nS} {x k : Nat} (hx : x < k) (hk : k ≤ 15) {G : Int32 → Int32} (e : Int32) (he : e = nI k) :
    (if σ 2 k = 0 then G (nI x) else if σ 1 k = 0 then G (nI x) else if nI x = 0 then G e else if σ 4 (nI x).toNatClampNeg ≤ σ 4 k then G (nI x) else G e) = G (nI (lm (σ 4) x (cd σ k))) := by
  subst he
  rw [nI_clamp (show x < 2 ^ 31 by omega)]
  unfold cd
  by_cases a : σ 2 k = 0
  · simp only [a, if_true, lm_0]
  · by_cases b : σ 1 k = 0
    · simp only [a, b, if_true, if_false, lm_0]
    · simp only [a, b, if_false]
      unfold lm bt9
      by_cases hx0 : x = 0
      · subst hx0
        simp only [if_true, show nI 0 = 0 from nI_0]
      · have h0 : ¬ nI x = 0 := nI_ne0 (by omega) (by omega)
        have hk0 : ¬ k = 0 := by omega
        simp only [h0, hx0, hk0, if_false, Bool.or_eq_true, Bool.and_eq_true, decide_eq_true_eq]
        by_cases c : σ 4 x ≤ σ 4 k
        · rw [if_pos c, if_neg]
          rintro (d | ⟨d, e⟩)
          · exact absurd d (Int32.not_lt.mpr c)
          · omega
        · rw [if_neg c, if_pos (Or.inl (Int32.not_le.mp c))]
theorem st_dsc {σ : nS} {x k : Nat} (hx : x = 0 ∨ k < x) (hx2 : x ≤ 15) (hk0 : 2 ≤ k) {G : Int32 → Int32} (e : Int32) (he : e = nI k) :
    (if σ 2 k = 0 then G (nI x) else if σ 1 k = 0 then G (nI x) else if nI x = 0 then G e else if σ 4 (nI x).toNatClampNeg < σ 4 k then G (nI x) else G e) = G (nI (lm (σ 4) x (cd σ k))) := by
  subst he
  rw [nI_clamp (show x < 2 ^ 31 by omega)]
  unfold cd
  by_cases a : σ 2 k = 0
  · simp only [a, if_true, lm_0]
  · by_cases b : σ 1 k = 0
    · simp only [a, b, if_true, if_false, lm_0]
    · simp only [a, b, if_false]
      unfold lm bt9
      by_cases hx0 : x = 0
      · subst hx0
        simp only [if_true, show nI 0 = 0 from nI_0]
      · have h0 : ¬ nI x = 0 := nI_ne0 (by omega) (by omega)
        have hk9 : ¬ k = 0 := by omega
        simp only [h0, hx0, hk9, if_false, Bool.or_eq_true, Bool.and_eq_true, decide_eq_true_eq]
        by_cases c : σ 4 x < σ 4 k
        · rw [if_pos c, if_neg]
          rintro (d | ⟨d, e⟩)
          · exact absurd d (Int32.not_lt.mpr (Int32.le_of_lt c))
          · rw [d] at c; exact absurd c Int32.lt_irrefl
        · rw [if_neg c, if_pos]
          rcases Int32.lt_or_eq_of_le (Int32.not_lt.mp c) with d | d
          · exact Or.inl d
          · exact Or.inr ⟨d, by omega⟩
theorem lm_lt {p : Nat → Int32} {x y k : Nat} (hx : x < k) (hy : y < k) : lm p x y < k := by
  unfold lm
  repeat' split
  all_goals omega
theorem cd_le (σ : nS) (k : Nat) : cd σ k ≤ k := by
  unfold cd
  repeat' split
  all_goals omega
theorem cd_or (σ : nS) (k : Nat) : cd σ k = 0 ∨ cd σ k = k := by
  unfold cd
  repeat' split
  all_goals omega
theorem lm_or {p : Nat → Int32} {x y k : Nat} (hx : x = 0 ∨ k < x) (hy : y = 0 ∨ y = k) : lm p x y = 0 ∨ k ≤ lm p x y := by
  unfold lm
  repeat' split
  all_goals omega
theorem dA_15 (σ : nS) (x : Nat) (hx : x < 15) : s_Ex_due_4_15 (nI x) σ = s_Ex_due_4_16 (nI (dA σ 1 x)) σ := by
  unfold s_Ex_due_4_15 s_Ex_due_47_15 s_Ex_due_49_15
  rw [st_asc (k := 15) hx (by decide) (G := fun v => s_Ex_due_4_16 v σ) 15 rfl]
  exact rfl
theorem dA_14 (σ : nS) (x : Nat) (hx : x < 14) : s_Ex_due_4_14 (nI x) σ = s_Ex_due_4_16 (nI (dA σ 2 x)) σ := by
  unfold s_Ex_due_4_14 s_Ex_due_47_14 s_Ex_due_49_14
  rw [st_asc (k := 14) hx (by decide) (G := fun v => s_Ex_due_4_15 v σ) 14 rfl]
  exact dA_15 σ _ (lm_lt (by omega) (by have := cd_le σ 14; omega))
theorem dA_13 (σ : nS) (x : Nat) (hx : x < 13) : s_Ex_due_4_13 (nI x) σ = s_Ex_due_4_16 (nI (dA σ 3 x)) σ := by
  unfold s_Ex_due_4_13 s_Ex_due_47_13 s_Ex_due_49_13
  rw [st_asc (k := 13) hx (by decide) (G := fun v => s_Ex_due_4_14 v σ) 13 rfl]
  exact dA_14 σ _ (lm_lt (by omega) (by have := cd_le σ 13; omega))
theorem dA_12 (σ : nS) (x : Nat) (hx : x < 12) : s_Ex_due_4_12 (nI x) σ = s_Ex_due_4_16 (nI (dA σ 4 x)) σ := by
  unfold s_Ex_due_4_12 s_Ex_due_47_12 s_Ex_due_49_12
  rw [st_asc (k := 12) hx (by decide) (G := fun v => s_Ex_due_4_13 v σ) 12 rfl]
  exact dA_13 σ _ (lm_lt (by omega) (by have := cd_le σ 12; omega))
theorem dA_11 (σ : nS) (x : Nat) (hx : x < 11) : s_Ex_due_4_11 (nI x) σ = s_Ex_due_4_16 (nI (dA σ 5 x)) σ := by
  unfold s_Ex_due_4_11 s_Ex_due_47_11 s_Ex_due_49_11
  rw [st_asc (k := 11) hx (by decide) (G := fun v => s_Ex_due_4_12 v σ) 11 rfl]
  exact dA_12 σ _ (lm_lt (by omega) (by have := cd_le σ 11; omega))
theorem dA_10 (σ : nS) (x : Nat) (hx : x < 10) : s_Ex_due_4_10 (nI x) σ = s_Ex_due_4_16 (nI (dA σ 6 x)) σ := by
  unfold s_Ex_due_4_10 s_Ex_due_47_10 s_Ex_due_49_10
  rw [st_asc (k := 10) hx (by decide) (G := fun v => s_Ex_due_4_11 v σ) 10 rfl]
  exact dA_11 σ _ (lm_lt (by omega) (by have := cd_le σ 10; omega))
theorem dA_9 (σ : nS) (x : Nat) (hx : x < 9) : s_Ex_due_4_9 (nI x) σ = s_Ex_due_4_16 (nI (dA σ 7 x)) σ := by
  unfold s_Ex_due_4_9 s_Ex_due_47_9 s_Ex_due_49_9
  rw [st_asc (k := 9) hx (by decide) (G := fun v => s_Ex_due_4_10 v σ) 9 rfl]
  exact dA_10 σ _ (lm_lt (by omega) (by have := cd_le σ 9; omega))
theorem dA_8 (σ : nS) (x : Nat) (hx : x < 8) : s_Ex_due_4_8 (nI x) σ = s_Ex_due_4_16 (nI (dA σ 8 x)) σ := by
  unfold s_Ex_due_4_8 s_Ex_due_47_8 s_Ex_due_49_8
  rw [st_asc (k := 8) hx (by decide) (G := fun v => s_Ex_due_4_9 v σ) 8 rfl]
  exact dA_9 σ _ (lm_lt (by omega) (by have := cd_le σ 8; omega))
theorem dA_7 (σ : nS) (x : Nat) (hx : x < 7) : s_Ex_due_4_7 (nI x) σ = s_Ex_due_4_16 (nI (dA σ 9 x)) σ := by
  unfold s_Ex_due_4_7 s_Ex_due_47_7 s_Ex_due_49_7
  rw [st_asc (k := 7) hx (by decide) (G := fun v => s_Ex_due_4_8 v σ) 7 rfl]
  exact dA_8 σ _ (lm_lt (by omega) (by have := cd_le σ 7; omega))
theorem dA_6 (σ : nS) (x : Nat) (hx : x < 6) : s_Ex_due_4_6 (nI x) σ = s_Ex_due_4_16 (nI (dA σ 10 x)) σ := by
  unfold s_Ex_due_4_6 s_Ex_due_47_6 s_Ex_due_49_6
  rw [st_asc (k := 6) hx (by decide) (G := fun v => s_Ex_due_4_7 v σ) 6 rfl]
  exact dA_7 σ _ (lm_lt (by omega) (by have := cd_le σ 6; omega))
theorem dA_5 (σ : nS) (x : Nat) (hx : x < 5) : s_Ex_due_4_5 (nI x) σ = s_Ex_due_4_16 (nI (dA σ 11 x)) σ := by
  unfold s_Ex_due_4_5 s_Ex_due_47_5 s_Ex_due_49_5
  rw [st_asc (k := 5) hx (by decide) (G := fun v => s_Ex_due_4_6 v σ) 5 rfl]
  exact dA_6 σ _ (lm_lt (by omega) (by have := cd_le σ 5; omega))
theorem dA_4 (σ : nS) (x : Nat) (hx : x < 4) : s_Ex_due_4_4 (nI x) σ = s_Ex_due_4_16 (nI (dA σ 12 x)) σ := by
  unfold s_Ex_due_4_4 s_Ex_due_47_4 s_Ex_due_49_4
  rw [st_asc (k := 4) hx (by decide) (G := fun v => s_Ex_due_4_5 v σ) 4 rfl]
  exact dA_5 σ _ (lm_lt (by omega) (by have := cd_le σ 4; omega))
theorem dA_3 (σ : nS) (x : Nat) (hx : x < 3) : s_Ex_due_4_3 (nI x) σ = s_Ex_due_4_16 (nI (dA σ 13 x)) σ := by
  unfold s_Ex_due_4_3 s_Ex_due_47_3 s_Ex_due_49_3
  rw [st_asc (k := 3) hx (by decide) (G := fun v => s_Ex_due_4_4 v σ) 3 rfl]
  exact dA_4 σ _ (lm_lt (by omega) (by have := cd_le σ 3; omega))
theorem dA_2 (σ : nS) : s_Ex_due_4_2 σ = s_Ex_due_4_16 (nI (dA σ 14 0)) σ := by
  have h := st_asc (σ := σ) (x := 0) (k := 2) (by decide) (by decide) (G := fun v => s_Ex_due_4_3 v σ) 2 rfl
  rw [if_pos (show nI 0 = 0 from nI_0)] at h
  unfold s_Ex_due_4_2 s_Ex_due_47_2 s_Ex_due_49_2
  refine Eq.trans h ?_
  exact dA_3 σ _ (lm_lt (by omega) (by have := cd_le σ 2; omega))
theorem dD_2 (σ : nS) (x : Nat) (hx : x = 0 ∨ 2 < x) (hx2 : x ≤ 15) : s_Mo_due_5_2 (nI x) σ = s_Mo_due_5_1 (nI (dD σ 1 x)) σ := by
  unfold s_Mo_due_5_2 s_Mo_due_47_2 s_Mo_due_49_2
  rw [st_dsc (k := 2) hx hx2 (by decide) (G := fun v => s_Mo_due_5_1 v σ) 2 rfl]
  exact rfl
theorem dD_3 (σ : nS) (x : Nat) (hx : x = 0 ∨ 3 < x) (hx2 : x ≤ 15) : s_Mo_due_5_3 (nI x) σ = s_Mo_due_5_1 (nI (dD σ 2 x)) σ := by
  unfold s_Mo_due_5_3 s_Mo_due_47_3 s_Mo_due_49_3
  rw [st_dsc (k := 3) hx hx2 (by decide) (G := fun v => s_Mo_due_5_2 v σ) 3 rfl]
  exact dD_2 σ _ (by have := lm_or (p := σ 4) hx (cd_or σ 3); omega) (by have := lm_lt (p := σ 4) (x := x) (y := cd σ 3) (k := 16) (by omega) (by have := cd_le σ 3; omega); omega)
theorem dD_4 (σ : nS) (x : Nat) (hx : x = 0 ∨ 4 < x) (hx2 : x ≤ 15) : s_Mo_due_5_4 (nI x) σ = s_Mo_due_5_1 (nI (dD σ 3 x)) σ := by
  unfold s_Mo_due_5_4 s_Mo_due_47_4 s_Mo_due_49_4
  rw [st_dsc (k := 4) hx hx2 (by decide) (G := fun v => s_Mo_due_5_3 v σ) 4 rfl]
  exact dD_3 σ _ (by have := lm_or (p := σ 4) hx (cd_or σ 4); omega) (by have := lm_lt (p := σ 4) (x := x) (y := cd σ 4) (k := 16) (by omega) (by have := cd_le σ 4; omega); omega)
theorem dD_5 (σ : nS) (x : Nat) (hx : x = 0 ∨ 5 < x) (hx2 : x ≤ 15) : s_Mo_due_5_5 (nI x) σ = s_Mo_due_5_1 (nI (dD σ 4 x)) σ := by
  unfold s_Mo_due_5_5 s_Mo_due_47_5 s_Mo_due_49_5
  rw [st_dsc (k := 5) hx hx2 (by decide) (G := fun v => s_Mo_due_5_4 v σ) 5 rfl]
  exact dD_4 σ _ (by have := lm_or (p := σ 4) hx (cd_or σ 5); omega) (by have := lm_lt (p := σ 4) (x := x) (y := cd σ 5) (k := 16) (by omega) (by have := cd_le σ 5; omega); omega)
theorem dD_6 (σ : nS) (x : Nat) (hx : x = 0 ∨ 6 < x) (hx2 : x ≤ 15) : s_Mo_due_5_6 (nI x) σ = s_Mo_due_5_1 (nI (dD σ 5 x)) σ := by
  unfold s_Mo_due_5_6 s_Mo_due_47_6 s_Mo_due_49_6
  rw [st_dsc (k := 6) hx hx2 (by decide) (G := fun v => s_Mo_due_5_5 v σ) 6 rfl]
  exact dD_5 σ _ (by have := lm_or (p := σ 4) hx (cd_or σ 6); omega) (by have := lm_lt (p := σ 4) (x := x) (y := cd σ 6) (k := 16) (by omega) (by have := cd_le σ 6; omega); omega)
theorem dD_7 (σ : nS) (x : Nat) (hx : x = 0 ∨ 7 < x) (hx2 : x ≤ 15) : s_Mo_due_5_7 (nI x) σ = s_Mo_due_5_1 (nI (dD σ 6 x)) σ := by
  unfold s_Mo_due_5_7 s_Mo_due_47_7 s_Mo_due_49_7
  rw [st_dsc (k := 7) hx hx2 (by decide) (G := fun v => s_Mo_due_5_6 v σ) 7 rfl]
  exact dD_6 σ _ (by have := lm_or (p := σ 4) hx (cd_or σ 7); omega) (by have := lm_lt (p := σ 4) (x := x) (y := cd σ 7) (k := 16) (by omega) (by have := cd_le σ 7; omega); omega)
theorem dD_8 (σ : nS) (x : Nat) (hx : x = 0 ∨ 8 < x) (hx2 : x ≤ 15) : s_Mo_due_5_8 (nI x) σ = s_Mo_due_5_1 (nI (dD σ 7 x)) σ := by
  unfold s_Mo_due_5_8 s_Mo_due_47_8 s_Mo_due_49_8
  rw [st_dsc (k := 8) hx hx2 (by decide) (G := fun v => s_Mo_due_5_7 v σ) 8 rfl]
  exact dD_7 σ _ (by have := lm_or (p := σ 4) hx (cd_or σ 8); omega) (by have := lm_lt (p := σ 4) (x := x) (y := cd σ 8) (k := 16) (by omega) (by have := cd_le σ 8; omega); omega)
theorem dD_9 (σ : nS) (x : Nat) (hx : x = 0 ∨ 9 < x) (hx2 : x ≤ 15) : s_Mo_due_5_9 (nI x) σ = s_Mo_due_5_1 (nI (dD σ 8 x)) σ := by
  unfold s_Mo_due_5_9 s_Mo_due_47_9 s_Mo_due_49_9
  rw [st_dsc (k := 9) hx hx2 (by decide) (G := fun v => s_Mo_due_5_8 v σ) 9 rfl]
  exact dD_8 σ _ (by have := lm_or (p := σ 4) hx (cd_or σ 9); omega) (by have := lm_lt (p := σ 4) (x := x) (y := cd σ 9) (k := 16) (by omega) (by have := cd_le σ 9; omega); omega)
theorem dD_10 (σ : nS) (x : Nat) (hx : x = 0 ∨ 10 < x) (hx2 : x ≤ 15) : s_Mo_due_5_10 (nI x) σ = s_Mo_due_5_1 (nI (dD σ 9 x)) σ := by
  unfold s_Mo_due_5_10 s_Mo_due_47_10 s_Mo_due_49_10
  rw [st_dsc (k := 10) hx hx2 (by decide) (G := fun v => s_Mo_due_5_9 v σ) 10 rfl]
  exact dD_9 σ _ (by have := lm_or (p := σ 4) hx (cd_or σ 10); omega) (by have := lm_lt (p := σ 4) (x := x) (y := cd σ 10) (k := 16) (by omega) (by have := cd_le σ 10; omega); omega)
theorem dD_11 (σ : nS) (x : Nat) (hx : x = 0 ∨ 11 < x) (hx2 : x ≤ 15) : s_Mo_due_5_11 (nI x) σ = s_Mo_due_5_1 (nI (dD σ 10 x)) σ := by
  unfold s_Mo_due_5_11 s_Mo_due_47_11 s_Mo_due_49_11
  rw [st_dsc (k := 11) hx hx2 (by decide) (G := fun v => s_Mo_due_5_10 v σ) 11 rfl]
  exact dD_10 σ _ (by have := lm_or (p := σ 4) hx (cd_or σ 11); omega) (by have := lm_lt (p := σ 4) (x := x) (y := cd σ 11) (k := 16) (by omega) (by have := cd_le σ 11; omega); omega)
theorem dD_12 (σ : nS) (x : Nat) (hx : x = 0 ∨ 12 < x) (hx2 : x ≤ 15) : s_Mo_due_5_12 (nI x) σ = s_Mo_due_5_1 (nI (dD σ 11 x)) σ := by
  unfold s_Mo_due_5_12 s_Mo_due_47_12 s_Mo_due_49_12
  rw [st_dsc (k := 12) hx hx2 (by decide) (G := fun v => s_Mo_due_5_11 v σ) 12 rfl]
  exact dD_11 σ _ (by have := lm_or (p := σ 4) hx (cd_or σ 12); omega) (by have := lm_lt (p := σ 4) (x := x) (y := cd σ 12) (k := 16) (by omega) (by have := cd_le σ 12; omega); omega)
theorem dD_13 (σ : nS) (x : Nat) (hx : x = 0 ∨ 13 < x) (hx2 : x ≤ 15) : s_Mo_due_5_13 (nI x) σ = s_Mo_due_5_1 (nI (dD σ 12 x)) σ := by
  unfold s_Mo_due_5_13 s_Mo_due_47_13 s_Mo_due_49_13
  rw [st_dsc (k := 13) hx hx2 (by decide) (G := fun v => s_Mo_due_5_12 v σ) 13 rfl]
  exact dD_12 σ _ (by have := lm_or (p := σ 4) hx (cd_or σ 13); omega) (by have := lm_lt (p := σ 4) (x := x) (y := cd σ 13) (k := 16) (by omega) (by have := cd_le σ 13; omega); omega)
theorem dD_14 (σ : nS) (x : Nat) (hx : x = 0 ∨ 14 < x) (hx2 : x ≤ 15) : s_Mo_due_5_14 (nI x) σ = s_Mo_due_5_1 (nI (dD σ 13 x)) σ := by
  unfold s_Mo_due_5_14 s_Mo_due_47_14 s_Mo_due_49_14
  rw [st_dsc (k := 14) hx hx2 (by decide) (G := fun v => s_Mo_due_5_13 v σ) 14 rfl]
  exact dD_13 σ _ (by have := lm_or (p := σ 4) hx (cd_or σ 14); omega) (by have := lm_lt (p := σ 4) (x := x) (y := cd σ 14) (k := 16) (by omega) (by have := cd_le σ 14; omega); omega)
theorem dD_15 (σ : nS) : s_Mo_due_5_15 σ = s_Mo_due_5_1 (nI (dD σ 14 0)) σ := by
  have h := st_dsc (σ := σ) (x := 0) (k := 15) (Or.inl rfl) (by decide) (by decide) (G := fun v => s_Mo_due_5_14 v σ) 15 rfl
  rw [if_pos (show nI 0 = 0 from nI_0)] at h
  unfold s_Mo_due_5_15 s_Mo_due_47_15 s_Mo_due_49_15
  refine Eq.trans h ?_
  exact dD_14 σ _ (by have := lm_or (p := σ 4) (x := 0) (k := 15) (Or.inl rfl) (cd_or σ 15); omega) (by have := lm_lt (p := σ 4) (x := 0) (y := cd σ 15) (k := 16) (by omega) (by have := cd_le σ 15; omega); omega)
theorem dAD (σ : nS) : dA σ 14 0 = dD σ 14 0 := by
  have z : ∀ y, lm (σ 4) 0 y = y := fun y => by rw [lm_comm, lm_0]
  simp only [dA, dD, z, Nat.reduceAdd, Nat.reduceSub]
  simp only [lm_assoc]
  have c := lm_comm (σ 4)
  have l : ∀ a b d, lm (σ 4) a (lm (σ 4) b d) = lm (σ 4) b (lm (σ 4) a d) := fun a b d => by rw [← lm_assoc, c a b, lm_assoc]
  simp only [c, l]
theorem dA_le (σ : nS) : ∀ n x, x ≤ 15 → dA σ n x ≤ 15
  | 0, x, h => h
  | n + 1, x, h => dA_le σ n _ (by have := lm_lt (p := σ 4) (x := x) (y := cd σ (15 - n)) (k := 16) (by omega) (by have := cd_le σ (15 - n); omega); omega)
theorem mlevel_rows {σ τ : nS} (h : RelC σ τ) : (∀ e, cd τ e = cd σ e) ∧ τ 4 = σ 4 := by
  refine ⟨fun e => ?_, h.1 4 (by decide) (by decide)⟩
  unfold cd
  rw [h.1 1 (by decide) (by decide), h.1 2 (by decide) (by decide)]
theorem dD_cong {σ τ : nS} (h : RelC σ τ) : ∀ n x, dD τ n x = dD σ n x
  | 0, x => rfl
  | n + 1, x => by
    show dD τ n _ = dD σ n _
    rw [(mlevel_rows h).1, (mlevel_rows h).2, dD_cong h n]
theorem due_eq {σ τ : nS} (h : RelC σ τ) (hf : 0 ≤ σ 8 1) : s_Mo_due τ = s_Ex_due σ := by
  show s_Mo_due_5_15 τ = s_Ex_due_4_2 σ
  rw [dD_15, dA_2, dD_cong h, dAD]
  have hle : dD σ 14 0 ≤ 15 := by rw [← dAD]; exact dA_le σ 14 0 (by decide)
  generalize dD σ 14 0 = x at hle
  unfold s_Mo_due_5_1 s_Ex_due_4_16 s_Mo_due_80 s_Ex_due_75
  rw [level_eq h hf, gr_eq h]
  by_cases hx : x = 0
  · subst hx
    rw [if_pos (show nI 0 ≤ 0 by decide), if_pos (show nI 0 = 0 by decide)]
  · rw [if_neg (nI_nle (by omega) (by omega)), if_neg (nI_ne0 (by omega) (by omega))]
