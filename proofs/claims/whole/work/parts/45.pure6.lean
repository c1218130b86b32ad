-- one word, counting, push
theorem pos45 {x : Int32} (h : x = 0 ∨ x = 4 ∨ x = 5) : x ≤ 0 ↔ x = 0 := by
  rcases h with rfl | rfl | rfl <;> decide
theorem wok0 {v : Int32} (h : wok (v + nI (4 * 0))) : wok v := by
  have e : v + nI (4 * 0) = v := by
    show v + 0 = v
    exact Int32.add_zero v
  rw [e] at h
  exact h
theorem fa_wok (v c n : Int32) (σ : nS) (hf : s_N_faultAlong v c n σ = 0) (k : Nat) (hk : k < 9) (hc : nI k < c) : wok (v + nI (4 * k)) := wok_of (fa_words v c n σ hf k hk hc)
theorem q_move (th : Int32) (v x a : Int32) (hx : x.toNatClampNeg ≠ 15) (σ : nS) (b : Bool) (hb : b = if ((v >>> ((11 : Int32) &&& 31)) &&& 1) = 0 then false else true) : s_Mo_move x a b (Pf th σ) = M2 (Pf th) (s_N_move v x a σ) := by
  have G := Pf_gd th
  unfold s_Mo_move s_N_move s_N_move_14 s_N_move_29 s_Mo_move_12 s_Mo_move_54 s_N_move_78
  have key : ∀ n : Int32, n ≠ 3 → ∀ c : Bool, (if (s_Mo_faultOf a 1 n (Pf th σ)) ≤ 0 then (if c = true then ((0 : Int32), (up2 (Pf th σ) 0 (x).toNatClampNeg (s_Mo_load a (Pf th σ)))) else (ap1 (s_Mo_store a ((Pf th σ) 0 (x).toNatClampNeg) (Pf th σ)) fun σ1 => (0, σ1))) else (((s_Mo_faultOf a 1 n (Pf th σ)), (Pf th σ)))) = M2 (Pf th) (if (s_N_faultAlong a 1 n σ) = 0 then (if c = true then (0, (up2 σ 0 (x).toNatClampNeg (s_Me_load a σ))) else (ap1 (s_Me_store a (σ 0 (x).toNatClampNeg) σ) fun σ1 => (0, σ1))) else (((s_N_faultAlong a 1 n σ), σ))) := by
    intro n hn c
    rw [q_fault G a 1 n hn σ]
    by_cases h : s_N_faultAlong a 1 n σ = 0
    · rw [if_pos ((pos45 (fa_range a 1 n σ)).mpr h), if_pos h]
      have w : wok a := wok0 (fa_wok a 1 n σ h 0 (by decide) (by decide))
      by_cases hc : c = true
      · rw [if_pos hc, if_pos hc, q_load G w, ← Pf_u0 th _ _ hx]
        rfl
      · rw [if_neg hc, if_neg hc, Pf_r th σ hx, q_store G (Pf_gm th) w]
        rfl
    · rw [if_neg (fun q => h ((pos45 (fa_range a 1 n σ)).mp q)), if_neg h]
      rfl
  by_cases h : ((v >>> ((11 : Int32) &&& 31)) &&& 1) = 0
  · rw [if_pos h] at hb
    subst hb
    rw [if_pos h]
    exact key 2 (by decide) false
  · rw [if_neg h] at hb
    subst hb
    rw [if_neg h]
    exact key 1 (by decide) true
def bq (l : Int32) (k : Nat) : Nat := if ((l >>> (nI k &&& 31)) &&& 1) = 0 then 0 else 1
def cq (l : Int32) : Nat → Nat
  | 0 => 0
  | m + 1 => bq l (8 - m) + cq l m
theorem bq_le (l : Int32) (k : Nat) : bq l k ≤ 1 := by
  unfold bq
  by_cases h : ((l >>> (nI k &&& 31)) &&& 1) = 0
  · rw [if_pos h]; decide
  · rw [if_neg h]; decide
theorem cq_le (l : Int32) : ∀ m, cq l m ≤ m
  | 0 => Nat.le_refl 0
  | m + 1 => by
    have a := cq_le l m
    have b := bq_le l (8 - m)
    show bq l (8 - m) + cq l m ≤ m + 1
    omega
theorem bq_nI (l : Int32) (k : Nat) : (l >>> (nI k &&& 31)) &&& 1 = nI (bq l k) := by
  unfold bq
  by_cases h : ((l >>> (nI k &&& 31)) &&& 1) = 0
  · rw [if_pos h, h]; rfl
  · rw [if_neg h, (and1 _).mpr h]; rfl
theorem ones_cq (l : Int32) : s_Mo_ones l = nI (cq l 9) := by
  unfold s_Mo_ones s_Mo_ones_4_0 s_Mo_ones_4_1 s_Mo_ones_4_2 s_Mo_ones_4_3 s_Mo_ones_4_4 s_Mo_ones_4_5 s_Mo_ones_4_6 s_Mo_ones_4_7 s_Mo_ones_4_8 s_Mo_ones_4_9
  have e : ∀ k : Nat, ∀ c : Int32, c = nI k → (l >>> (c &&& 31)) &&& 1 = nI (bq l k) := fun k c h => by rw [h]; exact bq_nI l k
  rw [e 0 0 rfl, e 1 1 rfl, e 2 2 rfl, e 3 3 rfl, e 4 4 rfl, e 5 5 rfl, e 6 6 rfl, e 7 7 rfl, e 8 8 rfl]
  rw [show (0 : Int32) = nI 0 from rfl, nI_add, nI_add, nI_add, nI_add, nI_add, nI_add, nI_add, nI_add, nI_add]
  refine congrArg nI ?_
  show _ = bq l 0 + (bq l 1 + (bq l 2 + (bq l 3 + (bq l 4 + (bq l 5 + (bq l 6 + (bq l 7 + (bq l 8 + 0))))))))
  omega
theorem bc_ones : ∀ n : Nat, n < 512 → s_In_bitCount (nI n) = s_Mo_ones (nI n) := by decide +kernel
theorem bc_cq (v : Int32) : s_In_bitCount (v &&& 511) = nI (cq (v &&& 511) 9) := by
  obtain ⟨j, hj, e⟩ := pk_andE v (m := 511) 9 (by decide)
  rw [← ones_cq, e]
  exact bc_ones j (by omega)
theorem st_row0 (a x : Int32) (σ : nS) (j : Nat) (v : Int32) : s_Me_store a x (up2 σ 0 j v) = up2 (s_Me_store a x σ) 0 j v := by
  unfold s_Me_store
  rw [up2_comm _ _ _ (Or.inl (by decide))]
theorem ld_row0 (a : Int32) (σ : nS) (j : Nat) (v : Int32) : s_Me_load a (up2 σ 0 j v) = s_Me_load a σ := by
  unfold s_Me_load
  rw [up2_row _ _ _ (by decide)]
theorem w_next {at_ : Int32} {c : Nat} (W : ∀ j, j < 1 + c → wok (at_ + nI (4 * j))) : ∀ j, j < c → wok ((at_ + 4) + nI (4 * j)) := by
  intro j hj
  have h := W (j + 1) (by omega)
  rw [show 4 * (j + 1) = 4 + 4 * j by omega, ← nI_add, ← Int32.add_assoc] at h
  exact h
theorem ph_9 (th l v3 at_ : Int32) (σ : nS) : s_Mo_push_54_9 l at_ (Pf th (up2 σ 0 13 v3)) = M2 (Pf th) (s_N_push_47_9 l v3 at_ σ) := rfl
theorem ph_8 (th l v3 at_ : Int32) (σ : nS) (W : ∀ j, j < cq l 1 → wok (at_ + nI (4 * j))) : s_Mo_push_54_8 l at_ (Pf th (up2 σ 0 13 v3)) = M2 (Pf th) (s_N_push_47_8 l v3 at_ σ) := by
  have e : cq l 1 = bq l 8 + cq l 0 := rfl
  unfold s_Mo_push_54_8 s_N_push_47_8 s_Mo_push_91_8 s_N_push_87_8 s_Mo_push_98_8 s_N_push_94_8 ap1
  by_cases h : ((l >>> ((8 : Int32) &&& 31)) &&& 1) = 0
  · have b : bq l 8 = 0 := if_pos h
    rw [if_neg (fun q => (and1 _).mp q h), if_pos h]
    exact ph_9 th l v3 _ _
  · have b : bq l 8 = 1 := if_neg h
    have w : wok at_ := wok0 (W 0 (by omega))
    rw [if_pos ((and1 _).mpr h), if_neg h, Pf_r th _ (j := 14) (by decide), up2_at, if_neg (by decide), q_store (Pf_gd th) (Pf_gm th) w, st_row0]
    exact ph_9 th l v3 _ _
theorem ph_7 (th l v3 at_ : Int32) (σ : nS) (W : ∀ j, j < cq l 2 → wok (at_ + nI (4 * j))) : s_Mo_push_54_7 l at_ (Pf th (up2 σ 0 13 v3)) = M2 (Pf th) (s_N_push_47_7 l v3 at_ σ) := by
  have e : cq l 2 = bq l 7 + cq l 1 := rfl
  unfold s_Mo_push_54_7 s_N_push_47_7 s_Mo_push_91_7 s_N_push_87_7 s_Mo_push_98_7 s_N_push_94_7 ap1
  by_cases h : ((l >>> ((7 : Int32) &&& 31)) &&& 1) = 0
  · have b : bq l 7 = 0 := if_pos h
    rw [if_neg (fun q => (and1 _).mp q h), if_pos h]
    exact ph_8 th l v3 _ _ (fun j hj => W j (by omega))
  · have b : bq l 7 = 1 := if_neg h
    have w : wok at_ := wok0 (W 0 (by omega))
    rw [if_pos ((and1 _).mpr h), if_neg h, Pf_r th _ (j := 7) (by decide), up2_at, if_neg (by decide), q_store (Pf_gd th) (Pf_gm th) w, st_row0]
    exact ph_8 th l v3 _ _ (w_next (fun j hj => W j (by omega)))
theorem ph_6 (th l v3 at_ : Int32) (σ : nS) (W : ∀ j, j < cq l 3 → wok (at_ + nI (4 * j))) : s_Mo_push_54_6 l at_ (Pf th (up2 σ 0 13 v3)) = M2 (Pf th) (s_N_push_47_6 l v3 at_ σ) := by
  have e : cq l 3 = bq l 6 + cq l 2 := rfl
  unfold s_Mo_push_54_6 s_N_push_47_6 s_Mo_push_91_6 s_N_push_87_6 s_Mo_push_98_6 s_N_push_94_6 ap1
  by_cases h : ((l >>> ((6 : Int32) &&& 31)) &&& 1) = 0
  · have b : bq l 6 = 0 := if_pos h
    rw [if_neg (fun q => (and1 _).mp q h), if_pos h]
    exact ph_7 th l v3 _ _ (fun j hj => W j (by omega))
  · have b : bq l 6 = 1 := if_neg h
    have w : wok at_ := wok0 (W 0 (by omega))
    rw [if_pos ((and1 _).mpr h), if_neg h, Pf_r th _ (j := 6) (by decide), up2_at, if_neg (by decide), q_store (Pf_gd th) (Pf_gm th) w, st_row0]
    exact ph_7 th l v3 _ _ (w_next (fun j hj => W j (by omega)))
theorem ph_5 (th l v3 at_ : Int32) (σ : nS) (W : ∀ j, j < cq l 4 → wok (at_ + nI (4 * j))) : s_Mo_push_54_5 l at_ (Pf th (up2 σ 0 13 v3)) = M2 (Pf th) (s_N_push_47_5 l v3 at_ σ) := by
  have e : cq l 4 = bq l 5 + cq l 3 := rfl
  unfold s_Mo_push_54_5 s_N_push_47_5 s_Mo_push_91_5 s_N_push_87_5 s_Mo_push_98_5 s_N_push_94_5 ap1
  by_cases h : ((l >>> ((5 : Int32) &&& 31)) &&& 1) = 0
  · have b : bq l 5 = 0 := if_pos h
    rw [if_neg (fun q => (and1 _).mp q h), if_pos h]
    exact ph_6 th l v3 _ _ (fun j hj => W j (by omega))
  · have b : bq l 5 = 1 := if_neg h
    have w : wok at_ := wok0 (W 0 (by omega))
    rw [if_pos ((and1 _).mpr h), if_neg h, Pf_r th _ (j := 5) (by decide), up2_at, if_neg (by decide), q_store (Pf_gd th) (Pf_gm th) w, st_row0]
    exact ph_6 th l v3 _ _ (w_next (fun j hj => W j (by omega)))
theorem ph_4 (th l v3 at_ : Int32) (σ : nS) (W : ∀ j, j < cq l 5 → wok (at_ + nI (4 * j))) : s_Mo_push_54_4 l at_ (Pf th (up2 σ 0 13 v3)) = M2 (Pf th) (s_N_push_47_4 l v3 at_ σ) := by
  have e : cq l 5 = bq l 4 + cq l 4 := rfl
  unfold s_Mo_push_54_4 s_N_push_47_4 s_Mo_push_91_4 s_N_push_87_4 s_Mo_push_98_4 s_N_push_94_4 ap1
  by_cases h : ((l >>> ((4 : Int32) &&& 31)) &&& 1) = 0
  · have b : bq l 4 = 0 := if_pos h
    rw [if_neg (fun q => (and1 _).mp q h), if_pos h]
    exact ph_5 th l v3 _ _ (fun j hj => W j (by omega))
  · have b : bq l 4 = 1 := if_neg h
    have w : wok at_ := wok0 (W 0 (by omega))
    rw [if_pos ((and1 _).mpr h), if_neg h, Pf_r th _ (j := 4) (by decide), up2_at, if_neg (by decide), q_store (Pf_gd th) (Pf_gm th) w, st_row0]
    exact ph_5 th l v3 _ _ (w_next (fun j hj => W j (by omega)))
theorem ph_3 (th l v3 at_ : Int32) (σ : nS) (W : ∀ j, j < cq l 6 → wok (at_ + nI (4 * j))) : s_Mo_push_54_3 l at_ (Pf th (up2 σ 0 13 v3)) = M2 (Pf th) (s_N_push_47_3 l v3 at_ σ) := by
  have e : cq l 6 = bq l 3 + cq l 5 := rfl
  unfold s_Mo_push_54_3 s_N_push_47_3 s_Mo_push_91_3 s_N_push_87_3 s_Mo_push_98_3 s_N_push_94_3 ap1
  by_cases h : ((l >>> ((3 : Int32) &&& 31)) &&& 1) = 0
  · have b : bq l 3 = 0 := if_pos h
    rw [if_neg (fun q => (and1 _).mp q h), if_pos h]
    exact ph_4 th l v3 _ _ (fun j hj => W j (by omega))
  · have b : bq l 3 = 1 := if_neg h
    have w : wok at_ := wok0 (W 0 (by omega))
    rw [if_pos ((and1 _).mpr h), if_neg h, Pf_r th _ (j := 3) (by decide), up2_at, if_neg (by decide), q_store (Pf_gd th) (Pf_gm th) w, st_row0]
    exact ph_4 th l v3 _ _ (w_next (fun j hj => W j (by omega)))
theorem ph_2 (th l v3 at_ : Int32) (σ : nS) (W : ∀ j, j < cq l 7 → wok (at_ + nI (4 * j))) : s_Mo_push_54_2 l at_ (Pf th (up2 σ 0 13 v3)) = M2 (Pf th) (s_N_push_47_2 l v3 at_ σ) := by
  have e : cq l 7 = bq l 2 + cq l 6 := rfl
  unfold s_Mo_push_54_2 s_N_push_47_2 s_Mo_push_91_2 s_N_push_87_2 s_Mo_push_98_2 s_N_push_94_2 ap1
  by_cases h : ((l >>> ((2 : Int32) &&& 31)) &&& 1) = 0
  · have b : bq l 2 = 0 := if_pos h
    rw [if_neg (fun q => (and1 _).mp q h), if_pos h]
    exact ph_3 th l v3 _ _ (fun j hj => W j (by omega))
  · have b : bq l 2 = 1 := if_neg h
    have w : wok at_ := wok0 (W 0 (by omega))
    rw [if_pos ((and1 _).mpr h), if_neg h, Pf_r th _ (j := 2) (by decide), up2_at, if_neg (by decide), q_store (Pf_gd th) (Pf_gm th) w, st_row0]
    exact ph_3 th l v3 _ _ (w_next (fun j hj => W j (by omega)))
theorem ph_1 (th l v3 at_ : Int32) (σ : nS) (W : ∀ j, j < cq l 8 → wok (at_ + nI (4 * j))) : s_Mo_push_54_1 l at_ (Pf th (up2 σ 0 13 v3)) = M2 (Pf th) (s_N_push_47_1 l v3 at_ σ) := by
  have e : cq l 8 = bq l 1 + cq l 7 := rfl
  unfold s_Mo_push_54_1 s_N_push_47_1 s_Mo_push_91_1 s_N_push_87_1 s_Mo_push_98_1 s_N_push_94_1 ap1
  by_cases h : ((l >>> ((1 : Int32) &&& 31)) &&& 1) = 0
  · have b : bq l 1 = 0 := if_pos h
    rw [if_neg (fun q => (and1 _).mp q h), if_pos h]
    exact ph_2 th l v3 _ _ (fun j hj => W j (by omega))
  · have b : bq l 1 = 1 := if_neg h
    have w : wok at_ := wok0 (W 0 (by omega))
    rw [if_pos ((and1 _).mpr h), if_neg h, Pf_r th _ (j := 1) (by decide), up2_at, if_neg (by decide), q_store (Pf_gd th) (Pf_gm th) w, st_row0]
    exact ph_2 th l v3 _ _ (w_next (fun j hj => W j (by omega)))
theorem ph_0 (th l v3 at_ : Int32) (σ : nS) (W : ∀ j, j < cq l 9 → wok (at_ + nI (4 * j))) : s_Mo_push_54_0 l at_ (Pf th (up2 σ 0 13 v3)) = M2 (Pf th) (s_N_push_47_0 l v3 at_ σ) := by
  have e : cq l 9 = bq l 0 + cq l 8 := rfl
  unfold s_Mo_push_54_0 s_N_push_47_0 s_Mo_push_91_0 s_N_push_87_0 s_Mo_push_98_0 s_N_push_94_0 ap1
  by_cases h : ((l >>> ((0 : Int32) &&& 31)) &&& 1) = 0
  · have b : bq l 0 = 0 := if_pos h
    rw [if_neg (fun q => (and1 _).mp q h), if_pos h]
    exact ph_1 th l v3 _ _ (fun j hj => W j (by omega))
  · have b : bq l 0 = 1 := if_neg h
    have w : wok at_ := wok0 (W 0 (by omega))
    rw [if_pos ((and1 _).mpr h), if_neg h, Pf_r th _ (j := 0) (by decide), up2_at, if_neg (by decide), q_store (Pf_gd th) (Pf_gm th) w, st_row0]
    exact ph_1 th l v3 _ _ (w_next (fun j hj => W j (by omega)))
theorem q_push (th v : Int32) (σ : nS) : s_Mo_push (v &&& 511) (Pf th σ) = M2 (Pf th) (s_N_push (v &&& 511) σ) := by
  have G := Pf_gd th
  unfold s_Mo_push s_N_push s_Mo_push_33
  rw [ones_cq, bc_cq, Pf_r th σ (j := 13) (by decide)]
  by_cases h : nI (cq (v &&& 511) 9) = 0
  · rw [if_pos h, if_pos h, if_neg (by decide)]
    rfl
  · rw [if_neg h, if_neg h, q_fault G _ _ 2 (by decide)]
    by_cases f : s_N_faultAlong (σ 0 13 - 4 * nI (cq (v &&& 511) 9)) (nI (cq (v &&& 511) 9)) 2 σ = 0
    · rw [if_pos ((pos45 (fa_range _ _ _ _)).mpr f), if_pos f, ← Pf_u0 th _ _ (by decide)]
      have l := cq_le (v &&& 511) 9
      exact ph_0 th _ _ _ σ (fun j hj => fa_wok _ _ _ σ f j (by omega) (nI_lt hj (by omega)))
    · rw [if_neg (fun q => f ((pos45 (fa_range _ _ _ _)).mp q)), if_neg f]
      rfl
