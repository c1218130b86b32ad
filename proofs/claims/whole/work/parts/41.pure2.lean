-- from the class's states to the reference's
def byt (w : Int32) (k : Nat) : Int32 := (w >>> (nI (8 * k) &&& 31)) &&& 255
def Rf (th : Int32) (σ : nS) : nS := fun k => if k ≤ 7 then σ k else if k = 8 then upd (σ 8) 15 th else if k = 9 then (fun j => byt (σ 9 (j / 4)) (j % 4)) else if k = 10 then (fun j => σ 5 j + σ 10 j) else fun _ => 0
def Pf (th : Int32) (σ : nS) : nS := up2 (Rf th σ) 0 15 (σ 0 15 - 2)
theorem up2_at (σ : nS) (k j : Nat) (v : Int32) (x y : Nat) : up2 σ k j v x y = if x = k ∧ y = j then v else σ x y := by
  unfold up2 upd
  by_cases h : x = k <;> by_cases g : y = j <;> simp [h, g]
theorem up2_row (σ : nS) {k x : Nat} (j : Nat) (v : Int32) (h : x ≠ k) : up2 σ k j v x = σ x := by
  unfold up2
  rw [if_neg h]
theorem up2_comm (σ : nS) {k j k' j' : Nat} (v v' : Int32) (h : k ≠ k' ∨ j ≠ j') : up2 (up2 σ k j v) k' j' v' = up2 (up2 σ k' j' v') k j v := by
  funext x y
  simp only [up2_at]
  by_cases a : x = k ∧ y = j
  · have b : ¬ (x = k' ∧ y = j') := fun b => h.elim (fun z => z (a.1.symm.trans b.1)) (fun z => z (a.2.symm.trans b.2))
    rw [if_pos a, if_pos a, if_neg b]
  · rw [if_neg a, if_neg a]
theorem up2_same (σ : nS) (k j : Nat) (v v' : Int32) : up2 (up2 σ k j v) k j v' = up2 σ k j v' := by
  funext x y
  simp only [up2_at]
  by_cases a : x = k ∧ y = j
  · rw [if_pos a, if_pos a]
  · rw [if_neg a, if_neg a, if_neg a]
theorem Rf_up8 (th : Int32) (σ : nS) (j : Nat) (v : Int32) (h : j < 15) : Rf th (up2 σ 8 j v) = up2 (Rf th σ) 8 j v := by
  funext x y
  rw [up2_at]
  by_cases hx : x = 8
  · subst hx
    show upd (up2 σ 8 j v 8) 15 th y = if 8 = 8 ∧ y = j then v else upd (σ 8) 15 th y
    unfold upd
    by_cases a : y = 15 <;> by_cases b : y = j <;> simp [a, b, up2_at] <;> omega
  · simp only [hx, false_and, if_false]
    unfold Rf
    by_cases a : x ≤ 7
    · rw [if_pos a, if_pos a, up2_row σ j v hx]
    · rw [if_neg a, if_neg a, if_neg hx, if_neg hx]
      rw [up2_row σ (x := 9) j v (by decide), up2_row σ (x := 5) j v (by decide), up2_row σ (x := 10) j v (by decide)]
theorem Rf_upk (th : Int32) (σ : nS) (k j : Nat) (v : Int32) (h : k ≤ 7) (h5 : k ≠ 5) : Rf th (up2 σ k j v) = up2 (Rf th σ) k j v := by
  funext x y
  rw [up2_at]
  by_cases hx : x = k
  · subst hx
    simp only [true_and]
    unfold Rf
    rw [if_pos h, if_pos h, up2_at]
    simp only [true_and]
  · simp only [hx, false_and, if_false]
    unfold Rf
    by_cases a : x ≤ 7
    · rw [if_pos a, if_pos a, up2_row σ j v hx]
    · rw [if_neg a, if_neg a]
      rw [up2_row σ (x := 8) j v (by omega), up2_row σ (x := 9) j v (by omega), up2_row σ (x := 5) j v (fun q => h5 q.symm), up2_row σ (x := 10) j v (by omega)]
theorem Rf_relC (th : Int32) (σ : nS) : RelC σ (Rf th σ) := by
  refine ⟨fun k _ h => by unfold Rf; rw [if_pos h], fun j h => ?_⟩
  show upd (σ 8) 15 th j = σ 8 j
  unfold upd
  rw [if_neg (by omega)]
/-- what a map from class states to reference states must bear for all that doesn't touch the registers -/
def Gd (M : nS → nS) : Prop := (∀ σ, RelC σ (M σ)) ∧ (∀ σ j v, j < 15 → M (up2 σ 8 j v) = up2 (M σ) 8 j v) ∧ (∀ σ k j v, 1 ≤ k → k ≤ 7 → k ≠ 5 → M (up2 σ k j v) = up2 (M σ) k j v) ∧ (∀ σ, M σ 9 = fun j => byt (σ 9 (j / 4)) (j % 4)) ∧ ∀ σ, M σ 10 = fun j => σ 5 j + σ 10 j
theorem Rf_gd (th : Int32) : Gd (Rf th) := ⟨Rf_relC th, fun σ j v h => Rf_up8 th σ j v h, fun σ k j v _ h h5 => Rf_upk th σ k j v h h5, fun _ => rfl, fun _ => rfl⟩
theorem Pf_gd (th : Int32) : Gd (Pf th) := by
  refine ⟨fun σ => ?_, fun σ j v h => ?_, fun σ k j v h1 h h5 => ?_, fun σ => ?_, fun σ => ?_⟩
  · have h := Rf_relC th σ
    exact ⟨fun k h1 h7 => by unfold Pf; rw [up2_row _ _ _ (by omega)]; exact h.1 k h1 h7, fun j hj => by unfold Pf; rw [up2_row _ _ _ (by decide)]; exact h.2 j hj⟩
  · unfold Pf
    rw [Rf_up8 th σ j v h, up2_comm _ _ _ (Or.inl (by decide)), up2_row σ j v (by decide)]
  · unfold Pf
    rw [Rf_upk th σ k j v h h5, up2_comm _ _ _ (Or.inl (by omega)), up2_row σ j v (by omega)]
  · unfold Pf
    rw [up2_row _ _ _ (by decide)]
    rfl
  · unfold Pf
    rw [up2_row _ _ _ (by decide)]
    rfl
section GD
variable {M : nS → nS}
theorem gd8 (G : Gd M) (σ : nS) {j : Nat} (h : j < 15) : M σ 8 j = σ 8 j := (G.1 σ).2 j h
theorem gdk (G : Gd M) (σ : nS) {k : Nat} (h1 : 1 ≤ k) (h7 : k ≤ 7) : M σ k = σ k := (G.1 σ).1 k h1 h7
/-- flags of a result -/
theorem q_test (G : Gd M) (v : Int32) (σ : nS) : s_Mo_test v (M σ) = M (s_Fl_ofResult v σ) := by
  unfold s_Mo_test s_Fl_ofResult s_Mo_test_10 s_Fl_ofResult_10 s_Mo_test_23 s_Fl_ofResult_23
  by_cases c0 : 0 ≤ v
  · (try simp only [if_pos c0])
    by_cases c1 : v = 0
    · (try simp only [if_pos c1])
      simp only [G.2.1 _ 4 _ (by decide), G.2.1 _ 5 _ (by decide)]
    · (try simp only [if_neg c1])
      simp only [G.2.1 _ 4 _ (by decide), G.2.1 _ 5 _ (by decide)]
  · (try simp only [if_neg c0])
    by_cases c1 : v = 0
    · (try simp only [if_pos c1])
      simp only [G.2.1 _ 4 _ (by decide), G.2.1 _ 5 _ (by decide)]
    · (try simp only [if_neg c1])
      simp only [G.2.1 _ 4 _ (by decide), G.2.1 _ 5 _ (by decide)]
theorem q_flags (G : Gd M) (v : Int32) (σ : nS) : s_Mo_flags v (M σ) = M (s_Fl_unpack v σ) := by
  unfold s_Mo_flags s_Fl_unpack s_Mo_flags_13 s_Fl_unpack_13 s_Mo_flags_28 s_Fl_unpack_28 s_Mo_flags_43 s_Fl_unpack_43 s_Mo_flags_58 s_Fl_unpack_58
  by_cases a : v &&& 8 = 0 <;> by_cases b : v &&& 4 = 0 <;> by_cases c : v &&& 2 = 0 <;> by_cases d : v &&& 1 = 0 <;> simp only [a, b, c, d, if_true, if_false, G.2.1 _ 4 _ (by decide), G.2.1 _ 5 _ (by decide), G.2.1 _ 6 _ (by decide), G.2.1 _ 7 _ (by decide)]
end GD
-- sums
theorem Gd.u8 {M : nS → nS} (G : Gd M) (σ : nS) (j : Nat) (v : Int32) (h : j < 15) : M (up2 σ 8 j v) = up2 (M σ) 8 j v := G.2.1 σ j v h
theorem lgc (x y : Int64) : lg_cmp x y = 0 ↔ x = y := by
  unfold lg_cmp
  by_cases h : x > y
  · rw [if_pos h]
    constructor
    · intro q; exact absurd q (by decide)
    · intro q; subst q; exact absurd h Int64.lt_irrefl
  · rw [if_neg h]
    by_cases g : x = y
    · rw [if_pos g]; simp [g]
    · rw [if_neg g]
      constructor
      · intro q; exact absurd q (by decide)
      · intro q; exact absurd q g
theorem uN_i32 (x : Int64) : x.toInt32.toBitVec.toNat = uN x % 4294967296 := by
  show (x.toBitVec.signExtend 32).toNat = _
  rw [BitVec.signExtend_eq_setWidth_of_le _ (by decide), BitVec.toNat_setWidth]
  rfl
theorem sm_32 (a b c : Int32) : (((a.toInt64 &&& 4294967295) + (b.toInt64 &&& 4294967295)) + c.toInt64).toInt32 = ((a.toInt64 + b.toInt64) + c.toInt64).toInt32 := by
  apply Int32.toBitVec_inj.mp
  apply BitVec.eq_of_toNat_eq
  rw [uN_i32, uN_i32, uN_add, uN_add, uN_add, uN_add, uN_lo, uN_lo]
  omega
theorem sm_64 (v : Int64) : lush v 32 = 0 ↔ v >>> ((32 : Int32).toInt64 &&& 63) = 0 := by
  have h1 : lush v 32 = 0 ↔ uN v < 4294967296 := by
    have e : uN (lush v 32) = uN v / 4294967296 := uN_s32 v
    constructor
    · intro h
      rw [h] at e
      have z : uN 0 = 0 := rfl
      omega
    · intro h
      exact uN_inj (by rw [e]; show _ = 0; omega)
  have h2 : v >>> ((32 : Int32).toInt64 &&& 63) = 0 ↔ uN v < 4294967296 := by
    have e : (v >>> ((32 : Int32).toInt64 &&& 63)).toInt = v.toInt / 4294967296 := by
      show (v.toBitVec.sshiftRight ((((32 : Int32).toInt64 &&& 63)).toBitVec.smod 64).toNat).toInt = _
      rw [show ((((32 : Int32).toInt64 &&& 63)).toBitVec.smod 64).toNat = 32 by decide, BitVec.toInt_sshiftRight, Int.shiftRight_eq_div_pow]
      rfl
    have hu := uN_int v
    have hl := uN_lt v
    constructor
    · intro h
      rw [h] at e
      have z : (0 : Int64).toInt = 0 := rfl
      rw [z] at e
      by_cases q : 2 * uN v < 18446744073709551616
      · rw [if_pos q] at hu; omega
      · rw [if_neg q] at hu; omega
    · intro h
      apply Int64.toInt_inj.mp
      rw [e]
      rw [if_pos (by omega)] at hu
      show _ = (0 : Int)
      omega
  rw [h1, h2]
def M2 (M : nS → nS) (F : Int32 × nS) : Int32 × nS := (F.1, M F.2)
section SUM
variable {M : nS → nS}
theorem ofR_comm (v : Int32) (σ : nS) (j : Nat) (x : Int32) (h4 : j ≠ 4) (h5 : j ≠ 5) : s_Fl_ofResult v (up2 σ 8 j x) = up2 (s_Fl_ofResult v σ) 8 j x := by
  unfold s_Fl_ofResult s_Fl_ofResult_10 s_Fl_ofResult_23
  by_cases c0 : 0 ≤ v
  · (try simp only [if_pos c0])
    by_cases c1 : v = 0
    · (try simp only [if_pos c1])
      rw [up2_comm σ _ _ (Or.inr h4), up2_comm _ _ _ (Or.inr h5)]
    · (try simp only [if_neg c1])
      rw [up2_comm σ _ _ (Or.inr h4), up2_comm _ _ _ (Or.inr h5)]
  · (try simp only [if_neg c0])
    by_cases c1 : v = 0
    · (try simp only [if_pos c1])
      rw [up2_comm σ _ _ (Or.inr h4), up2_comm _ _ _ (Or.inr h5)]
    · (try simp only [if_neg c1])
      rw [up2_comm σ _ _ (Or.inr h4), up2_comm _ _ _ (Or.inr h5)]
theorem q_sum (G : Gd M) (a b c : Int32) (σ : nS) : s_Mo_sum a b c (M σ) = M2 M (s_Fl_sum a b c σ) := by
  unfold s_Mo_sum s_Fl_sum s_Mo_sum_55 s_Fl_sum_49 s_Mo_sum_73 s_Fl_sum_67 M2 ap1
  rw [sm_32, q_test G]
  simp only [lgc, sm_64]
  by_cases c0 : ((a.toInt64 &&& 4294967295) + (b.toInt64 &&& 4294967295) + c.toInt64) >>> ((32 : Int32).toInt64 &&& 63) = 0
  · (try simp only [if_pos c0])
    by_cases c1 : (a.toInt64 + b.toInt64) + c.toInt64 = ((a.toInt64 + b.toInt64) + c.toInt64).toInt32.toInt64
    · (try simp only [if_pos c1])
      rw [ofR_comm _ _ _ _ (by decide) (by decide), ofR_comm _ _ _ _ (by decide) (by decide), G.u8 _ _ _ (by decide), G.u8 _ _ _ (by decide)]
    · (try simp only [if_neg c1])
      rw [ofR_comm _ _ _ _ (by decide) (by decide), ofR_comm _ _ _ _ (by decide) (by decide), G.u8 _ _ _ (by decide), G.u8 _ _ _ (by decide)]
  · (try simp only [if_neg c0])
    by_cases c1 : (a.toInt64 + b.toInt64) + c.toInt64 = ((a.toInt64 + b.toInt64) + c.toInt64).toInt32.toInt64
    · (try simp only [if_pos c1])
      rw [ofR_comm _ _ _ _ (by decide) (by decide), ofR_comm _ _ _ _ (by decide) (by decide), G.u8 _ _ _ (by decide), G.u8 _ _ _ (by decide)]
    · (try simp only [if_neg c1])
      rw [ofR_comm _ _ _ _ (by decide) (by decide), ofR_comm _ _ _ _ (by decide) (by decide), G.u8 _ _ _ (by decide), G.u8 _ _ _ (by decide)]
theorem q_diff (G : Gd M) (a b : Int32) (σ : nS) : s_Mo_sum a (b ^^^ (-1)) 1 (M σ) = M2 M (s_Fl_difference a b σ) := by
  rw [q_sum G]
  rfl
end SUM
