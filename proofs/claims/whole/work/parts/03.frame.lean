-- the words of the walks: a state is a function of row and place; a method's meaning is a function of states
abbrev nS : Type := Nat → Nat → Int32
def up2 (f : nS) (k j : Nat) (v : Int32) : nS := fun x => if x = k then upd (f x) j v else f x
def upC (f : nS) (r0 r1 : Nat) : nS := fun x => if x = r1 then va_cpy (f r0) (f x) 0 0 16 else f x
def bI (b : Bool) : Int32 := cond b 1 0
def ush (x y : Int32) : Int32 := (x.toUInt32 >>> (y.toUInt32 &&& Int32.toUInt32 31)).toInt32
def lush (x : Int64) (y : Int32) : Int64 := (x.toUInt64 >>> (y.toInt64.toUInt64 &&& Int64.toUInt64 63)).toInt64
def ap1 {β : Type} {γ : Sort _} (F : β) (k : β → γ) : γ := k F
def ap2 {α β : Type} {γ : Sort _} (F : α × β) (k : α → β → γ) : γ := k F.1 F.2
theorem ap1_eq {β γ : Type} {F u : β} {k : β → γ} (e : F = u) : ap1 F k = k u := by rw [e]; rfl
theorem ap2_eq {α β γ : Type} {F : α × β} {r : α} {u : β} {k : α → β → γ} (e : F = (r, u)) : ap2 F k = k r u := by rw [e]; rfl
theorem ok_ap1 {β : Type} {F u : β} {k : β → Prop} (e : F = u) (h : ap1 F k) : k u := by subst e; exact h
theorem ok_ap2 {α β : Type} {F : α × β} {r : α} {u : β} {k : α → β → Prop} (e : F = (r, u)) (h : ap2 F k) : k r u := by subst e; exact h
theorem ok_pos {c a b : Prop} [Decidable c] (h : c) (o : if c then a else b) : a := by rw [if_pos h] at o; exact o
theorem ok_neg {c a b : Prop} [Decidable c] (h : ¬ c) (o : if c then a else b) : b := by rw [if_neg h] at o; exact o
theorem bI_nar (b : Bool) : vp_nar .boolean (bI b) = bI b := by cases b <;> decide
theorem bI_narrow (b : Bool) : narrow .boolean (.int (bI b)) = .int (bI b) := by cases b <;> decide
theorem bI_fits (b : Bool) : fits .boolean (.int (bI b)) = true := by cases b <;> decide
theorem bI_0 (b : Bool) : bI b = 0 ↔ ¬ b = true := by cases b <;> decide
theorem vin_dec {i : Int32} {n : Nat} (h : (!(decide (i < 0)) && decide (i.toNatClampNeg < n)) = true) : vp_in i n := by
  simp only [Bool.and_eq_true, Bool.not_eq_true', decide_eq_false_iff_not, decide_eq_true_eq] at h
  intro q
  rcases q with q | q
  · exact h.1 q
  · omega
theorem vin_mono {i : Int32} {n k : Nat} (h : vp_in i n) (hk : n ≤ k) : vp_in i k := fun q => h (q.imp id (fun z => Nat.le_trans hk z))
theorem vin_and7_16 (x : Int32) : vp_in (x &&& 7) 16 := vin_mono (pk_andIn x 3 (by decide) (by omega)) (by decide)
theorem vin_and15_16 (x : Int32) : vp_in (x &&& 15) 16 := vin_mono (pk_andIn x 4 (by decide) (by omega)) (by decide)
theorem vin_and255_256 (x : Int32) : vp_in (x &&& 255) 256 := vin_mono (pk_andIn x 8 (by decide) (by omega)) (by decide)
-- the tables' words that every method of ours asks: the good ones of the claim's
def WS : List Jvm.Cond := lw_tbl.filter goodWord
theorem ws_good {w : Jvm.Cond} (h : w ∈ WS) : (w.onTables && w.keeps) = true ∨ ∃ ty, w = .arrayClass ty := good_of_word (List.mem_filter.mp h).2
theorem ws_sel {w : Jvm.Cond} (h : w ∈ k2_sels lw_privs) (hg : goodWord w = true) : w ∈ WS := List.mem_filter.mpr ⟨List.mem_append_left _ h, hg⟩
theorem ws_tab {w : Jvm.Cond} (h : w ∈ tables_1) (hg : goodWord w = true) : w ∈ WS := List.mem_filter.mpr ⟨List.mem_append_right _ h, hg⟩
/-- what a static fact that is carried along must bear -/
def ExOK (Ex : (Nat → Prop) → State → Heap → Prop) : Prop :=
  (∀ (A : Nat → Prop) (u U : State) (H : Heap), u.vm.Alike U.vm → Ex A u H → Ex A U H) ∧ (∀ (A : Nat → Prop) (U : State) (H H1 : Heap), Ex A U H → (∀ a : Nat, a < H.size → ¬ A a → H1[a]? = H[a]?) → Ex A U H1) ∧ (∀ (A B : Nat → Prop) (U : State) (H : Heap), Ex A U H → (∀ q, B q → A q) → Ex B U H)
def exM : (Nat → Prop) → State → Heap → Prop := fun _ _ _ => True
theorem exM_ok : ExOK exM := ⟨fun _ _ _ _ _ _ => trivial, fun _ _ _ _ _ _ => trivial, fun _ _ _ _ _ _ => trivial⟩
def frI (j : Nat) : Int32 := match j with
  | 0 => 0
  | 1 => 1
  | 2 => 2
  | 3 => 3
  | 4 => 12
  | 5 => 14
  | _ => 15
def exC (t : Nat) : (Nat → Prop) → State → Heap → Prop := fun A U H => va_Z "NestedCore" "FRAME" "[I" (.ref t) A U H ∧ va_T .int t 7 (fun j => .int (frI j)) A U H
theorem exC_ok (t : Nat) : ExOK (exC t) := ⟨fun _ _ _ _ hv h => ⟨va_Z.moved hv h.1, va_T.moved hv h.2⟩, fun _ _ _ _ h hq => ⟨h.1.kept hq, h.2.kept hq⟩, fun _ _ _ _ h hq => ⟨h.1.narrow hq, h.2.narrow hq⟩⟩
abbrev tyS (cI cZ : ClassId) : List (ClassId × FieldType) := [(cI, .int), (cZ, .boolean)]
def Fx (p : Program) (s : State) (m : MethodId) (args : Array Value) (meth : Method) (c : Code) (cc : ByteArray) (nL : Nat) (own : String) (D : va_G) (cI cZ : ClassId) (A : Nat → Prop) (Ex : (Nat → Prop) → State → Heap → Prop) : Prop :=
  p.tables.exec = Jvm.exec ∧ c.code = cc ∧ c.maxLocals = nL ∧ s.vm.findClass own = some m.cls ∧ (∀ w ∈ WS, w.before args s = true) ∧ va_K D clS (tyS cI cZ) s ∧ (∀ q, s.heap.size ≤ q → A q) ∧ Ex A s s.heap ∧ meth.locks = false ∧ ExOK Ex
def St (D : va_G) (w : nS → va_W) (A : Nat → Prop) (s : State) (σ : nS) (H : Heap) (locs : List Loc) : Prop := va_P D clS (w σ) H ∧ va_D A (w σ) ∧ va_S A s.heap H locs
def Pre (D : va_G) (cI cZ : ClassId) (w : nS → va_W) (Ex : (Nat → Prop) → State → Heap → Prop) (σ : nS) (sz : Nat) : State → Prop := fun U => U.heap.size = sz ∧ va_P D clS (w σ) U.heap ∧ va_K D clS (tyS cI cZ) U ∧ va_D (fun _ => True) (w σ) ∧ Ex (va_A (w σ) sz) U U.heap
def Pst (D : va_G) (cI cZ : ClassId) (w : nS → va_W) (A : Nat → Prop) (σ : nS) (t : State) : Prop := va_P D clS (w σ) t.heap ∧ va_K D clS (tyS cI cZ) t ∧ va_D A (w σ)
abbrev cdw (y : MethodName) (b : ByteArray) (n : Nat) (ret : Option FieldType) : List Jvm.Cond := Jvm.Cond.code y b n ret :: WS
def CtI (l : Launch) (D : va_G) (cI cZ : ClassId) (w : nS → va_W) (Ex : (Nat → Prop) → State → Heap → Prop) (y : MethodName) (b : ByteArray) (n : Nat) (rm : Room) (avs : List Value) (σ : nS) (F : Int32 × nS) : Prop :=
  ∀ sz : Nat, Met l y (cdw y b n (some .int)) rm (va_Pc avs (Pre D cI cZ w Ex σ sz)) (va_Qi (fun r u => F = (r, u)) (Pst D cI cZ w (va_A (w σ) sz)) (va_A (w σ) sz)) 0 0 (va_A (w σ) sz)
def CtZ (l : Launch) (D : va_G) (cI cZ : ClassId) (w : nS → va_W) (Ex : (Nat → Prop) → State → Heap → Prop) (y : MethodName) (b : ByteArray) (n : Nat) (rm : Room) (avs : List Value) (σ : nS) (F : Bool × nS) : Prop :=
  ∀ sz : Nat, Met l y (cdw y b n (some .boolean)) rm (va_Pc avs (Pre D cI cZ w Ex σ sz)) (va_Qi (fun r u => ∃ x : Bool, r = bI x ∧ F = (x, u)) (Pst D cI cZ w (va_A (w σ) sz)) (va_A (w σ) sz)) 0 0 (va_A (w σ) sz)
def CtV (l : Launch) (D : va_G) (cI cZ : ClassId) (w : nS → va_W) (Ex : (Nat → Prop) → State → Heap → Prop) (y : MethodName) (b : ByteArray) (n : Nat) (rm : Room) (avs : List Value) (σ : nS) (F : nS) : Prop :=
  ∀ sz : Nat, Met l y (cdw y b n none) rm (va_Pc avs (Pre D cI cZ w Ex σ sz)) (va_Qv (fun u => F = u) (Pst D cI cZ w (va_A (w σ) sz)) (va_A (w σ) sz)) 0 0 (va_A (w σ) sz)
section MET
variable {l : Launch} {D : va_G} {cI cZ : ClassId} {w : nS → va_W} {Ex : (Nat → Prop) → State → Heap → Prop} {y : MethodName} {b : ByteArray} {n : Nat} {rm : Room} {avs : List Value} {σ : nS}
theorem metI {F : Int32 × nS} (hEo : ExOK Ex) (hy : plainName y.cls = true) (hlen : (lg_sl avs).length ≤ n)
    (body : ∀ (p : Program) (e : Env) (s : State) (m : MethodId) (args : Array Value) (below : List Frame) (meth : Method) (c : Code) (A : Nat → Prop) (Q : State → Prop) (ls : Array Slot), Fx p s m args meth c b n y.cls D cI cZ A Ex → St D w A s σ s.heap [] → lv_has ls n (lv_args 0 avs) →
      (∀ (H : Heap) (locs : List Loc) (ls : Array Slot) (pc : Nat) (r : Int32) (σ' : nS), St D w A s σ' H locs → F = (r, σ') → decode b pc = .ok (.ireturn, 1) → W p l e rm s m args below meth c H locs 0 0 Q (F0 m pc ls [.int r])) →
      W p l e rm s m args below meth c s.heap [] 0 0 Q (F0 m 0 ls [])) : CtI l D cI cZ w Ex y b n rm avs σ F := by
  intro sz
  refine Met.ofW (cc := b) (maxL := n) (ret := some .int) hy rfl ?_
  intro p e s m args below meth c s₁ B hml hv
  obtain ⟨rfl, hsz, hP, hK, hD0, hE⟩ := hv
  subst hsz
  have hl := lv_entry avs (n := n) hlen
  rw [lg_entry_eq]
  generalize (lg_sl avs ++ List.replicate (n - (lg_sl avs).length) Slot.unset).toArray = ls at hl ⊢
  have hlk : meth.locks = false := B.notSynchronized
  refine body p e s m _ below meth c (va_A (w σ) s.heap.size) _ ls ⟨B.exec, B.bytes, hml, findClass_of_methodNamed B.named, fun z hz => atoms_spec (ws := cdw y b n (some .int)) B.pre z (List.mem_cons_of_mem _ hz), hK, fun q h => Or.inr h, hE, hlk, hEo⟩ ⟨hP, hD0.self, va_S.rf⟩ hl ?_
  intro H locs ls pc r σ' S hq hd
  exact W.iret B.exec B.bytes B.returns (fun t ht hW => ⟨⟨r, σ', rfl, hq, by rw [ht]; exact S.1, va_K.moved hW.alike hK, S.2.1⟩, S.2.2.F ht⟩) S.2.2.2.2 hd
theorem metIp {F : Int32} (hEo : ExOK Ex) (hy : plainName y.cls = true) (hlen : (lg_sl avs).length ≤ n)
    (body : ∀ (p : Program) (e : Env) (s : State) (m : MethodId) (args : Array Value) (below : List Frame) (meth : Method) (c : Code) (A : Nat → Prop) (Q : State → Prop) (ls : Array Slot), Fx p s m args meth c b n y.cls D cI cZ A Ex → St D w A s σ s.heap [] → lv_has ls n (lv_args 0 avs) →
      (∀ (H : Heap) (locs : List Loc) (ls : Array Slot) (pc : Nat) (r : Int32), St D w A s σ H locs → F = r → decode b pc = .ok (.ireturn, 1) → W p l e rm s m args below meth c H locs 0 0 Q (F0 m pc ls [.int r])) →
      W p l e rm s m args below meth c s.heap [] 0 0 Q (F0 m 0 ls [])) : CtI l D cI cZ w Ex y b n rm avs σ (F, σ) := by
  refine metI hEo hy hlen (fun p e s m args below meth c A Q ls X S hl ret => body p e s m args below meth c A Q ls X S hl (fun H locs ls pc r S' hq hd => ret H locs ls pc r σ S' (by rw [hq]) hd))
theorem metZ {F : Bool × nS} (hEo : ExOK Ex) (hy : plainName y.cls = true) (hlen : (lg_sl avs).length ≤ n)
    (body : ∀ (p : Program) (e : Env) (s : State) (m : MethodId) (args : Array Value) (below : List Frame) (meth : Method) (c : Code) (A : Nat → Prop) (Q : State → Prop) (ls : Array Slot), Fx p s m args meth c b n y.cls D cI cZ A Ex → St D w A s σ s.heap [] → lv_has ls n (lv_args 0 avs) →
      (∀ (H : Heap) (locs : List Loc) (ls : Array Slot) (pc : Nat) (r : Bool) (σ' : nS), St D w A s σ' H locs → F = (r, σ') → decode b pc = .ok (.ireturn, 1) → W p l e rm s m args below meth c H locs 0 0 Q (F0 m pc ls [.int (bI r)])) →
      W p l e rm s m args below meth c s.heap [] 0 0 Q (F0 m 0 ls [])) : CtZ l D cI cZ w Ex y b n rm avs σ F := by
  intro sz
  refine Met.ofW (cc := b) (maxL := n) (ret := some .boolean) hy rfl ?_
  intro p e s m args below meth c s₁ B hml hv
  obtain ⟨rfl, hsz, hP, hK, hD0, hE⟩ := hv
  subst hsz
  have hl := lv_entry avs (n := n) hlen
  rw [lg_entry_eq]
  generalize (lg_sl avs ++ List.replicate (n - (lg_sl avs).length) Slot.unset).toArray = ls at hl ⊢
  have hlk : meth.locks = false := B.notSynchronized
  refine body p e s m _ below meth c (va_A (w σ) s.heap.size) _ ls ⟨B.exec, B.bytes, hml, findClass_of_methodNamed B.named, fun z hz => atoms_spec (ws := cdw y b n (some .boolean)) B.pre z (List.mem_cons_of_mem _ hz), hK, fun q h => Or.inr h, hE, hlk, hEo⟩ ⟨hP, hD0.self, va_S.rf⟩ hl ?_
  intro H locs ls pc r σ' S hq hd
  exact W.zret B.exec B.bytes B.returns (bI_narrow r) (fun t ht hW => ⟨⟨bI r, σ', rfl, ⟨r, rfl, hq⟩, by rw [ht]; exact S.1, va_K.moved hW.alike hK, S.2.1⟩, S.2.2.F ht⟩) S.2.2.2.2 hd
theorem metZp {F : Bool} (hEo : ExOK Ex) (hy : plainName y.cls = true) (hlen : (lg_sl avs).length ≤ n)
    (body : ∀ (p : Program) (e : Env) (s : State) (m : MethodId) (args : Array Value) (below : List Frame) (meth : Method) (c : Code) (A : Nat → Prop) (Q : State → Prop) (ls : Array Slot), Fx p s m args meth c b n y.cls D cI cZ A Ex → St D w A s σ s.heap [] → lv_has ls n (lv_args 0 avs) →
      (∀ (H : Heap) (locs : List Loc) (ls : Array Slot) (pc : Nat) (r : Bool), St D w A s σ H locs → F = r → decode b pc = .ok (.ireturn, 1) → W p l e rm s m args below meth c H locs 0 0 Q (F0 m pc ls [.int (bI r)])) →
      W p l e rm s m args below meth c s.heap [] 0 0 Q (F0 m 0 ls [])) : CtZ l D cI cZ w Ex y b n rm avs σ (F, σ) := by
  refine metZ hEo hy hlen (fun p e s m args below meth c A Q ls X S hl ret => body p e s m args below meth c A Q ls X S hl (fun H locs ls pc r S' hq hd => ret H locs ls pc r σ S' (by rw [hq]) hd))
theorem metV {F : nS} (hEo : ExOK Ex) (hy : plainName y.cls = true) (hlen : (lg_sl avs).length ≤ n)
    (body : ∀ (p : Program) (e : Env) (s : State) (m : MethodId) (args : Array Value) (below : List Frame) (meth : Method) (c : Code) (A : Nat → Prop) (Q : State → Prop) (ls : Array Slot), Fx p s m args meth c b n y.cls D cI cZ A Ex → St D w A s σ s.heap [] → lv_has ls n (lv_args 0 avs) →
      (∀ (H : Heap) (locs : List Loc) (ls : Array Slot) (pc : Nat) (σ' : nS), St D w A s σ' H locs → F = σ' → decode b pc = .ok (.return_, 1) → W p l e rm s m args below meth c H locs 0 0 Q (F0 m pc ls [])) →
      W p l e rm s m args below meth c s.heap [] 0 0 Q (F0 m 0 ls [])) : CtV l D cI cZ w Ex y b n rm avs σ F := by
  intro sz
  refine Met.ofW (cc := b) (maxL := n) (ret := none) hy rfl ?_
  intro p e s m args below meth c s₁ B hml hv
  obtain ⟨rfl, hsz, hP, hK, hD0, hE⟩ := hv
  subst hsz
  have hl := lv_entry avs (n := n) hlen
  rw [lg_entry_eq]
  generalize (lg_sl avs ++ List.replicate (n - (lg_sl avs).length) Slot.unset).toArray = ls at hl ⊢
  have hlk : meth.locks = false := B.notSynchronized
  refine body p e s m _ below meth c (va_A (w σ) s.heap.size) _ ls ⟨B.exec, B.bytes, hml, findClass_of_methodNamed B.named, fun z hz => atoms_spec (ws := cdw y b n none) B.pre z (List.mem_cons_of_mem _ hz), hK, fun q h => Or.inr h, hE, hlk, hEo⟩ ⟨hP, hD0.self, va_S.rf⟩ hl ?_
  intro H locs ls pc σ' S hq hd
  exact W.vret B.exec B.bytes B.returns (fun t ht hW => ⟨⟨σ', rfl, hq, by rw [ht]; exact S.1, va_K.moved hW.alike hK, S.2.1⟩, S.2.2.F ht⟩) S.2.2.2.2 hd
end MET
-- calls
/-- what a call of an own method asks of the tables -/
def VK (own : String) (idx : Nat) (y : MethodName) (b : ByteArray) (n : Nat) (ret : Option FieldType) (na : Nat) : Prop :=
  Jvm.Cond.methodLink own idx y ∈ WS ∧ Jvm.Cond.instanceMethod y ∈ WS ∧ Jvm.Cond.selects y.cls y y ∈ WS ∧ Jvm.Cond.initialized y.cls ∈ WS ∧ Jvm.Cond.code y b n ret ∈ WS ∧ (y.cls ≠ "java/lang/invoke/MethodHandle" ∧ y.cls ≠ "java/lang/invoke/VarHandle" ∧ (parseMethodDescriptor y.desc).map (fun d => d.parameters.length) = some na)
def SK (own : String) (idx : Nat) (y : MethodName) (b : ByteArray) (n : Nat) (ret : Option FieldType) (na : Nat) : Prop :=
  Jvm.Cond.methodLink own idx y ∈ WS ∧ Jvm.Cond.static y ∈ WS ∧ Jvm.Cond.initialized y.cls ∈ WS ∧ Jvm.Cond.code y b n ret ∈ WS ∧ (y.cls ≠ "java/lang/invoke/MethodHandle" ∧ y.cls ≠ "java/lang/invoke/VarHandle" ∧ (parseMethodDescriptor y.desc).map (fun d => d.parameters.length) = some na)
def RK (rm : Room) (n : Nat) (R : Room) : Prop := rm.cells = 0 ∧ rm.slots = 0 ∧ rm.frames + 1 ≤ R.frames ∧ 8 + (n + 11) + rm.locals ≤ R.locals
theorem rk_dec {rm : Room} {n : Nat} {R : Room} (h : (rm.cells == 0 && rm.slots == 0 && decide (rm.frames + 1 ≤ R.frames) && decide (8 + (n + 11) + rm.locals ≤ R.locals)) = true) : RK rm n R := by
  simp only [Bool.and_eq_true, beq_iff_eq, decide_eq_true_eq] at h
  exact ⟨h.1.1.1, h.1.1.2, h.1.2, h.2⟩
theorem vk_good {own : String} {idx na n : Nat} {y : MethodName} {b : ByteArray} {ret : Option FieldType} (V : VK own idx y b n ret na) : GoodIn WS (wsV own idx y.cls y (cdw y b n ret)) := by
  have h : ∀ z ∈ wsV own idx y.cls y (cdw y b n ret), z ∈ WS := by
    intro z hz
    simp only [wsV, cdw, List.mem_append, List.mem_cons, List.not_mem_nil, or_false] at hz
    rcases hz with (rfl | rfl | rfl | rfl) | (rfl | hz)
    · exact V.1
    · exact V.2.1
    · exact V.2.2.1
    · exact V.2.2.2.1
    · exact V.2.2.2.2.1
    · exact hz
  exact fun z hz => ⟨h z hz, ws_good (h z hz)⟩
theorem sk_good {own : String} {idx na n : Nat} {y : MethodName} {b : ByteArray} {ret : Option FieldType} (V : SK own idx y b n ret na) : GoodIn WS (va_wsS own idx y (cdw y b n ret)) := by
  have h : ∀ z ∈ va_wsS own idx y (cdw y b n ret), z ∈ WS := by
    intro z hz
    simp only [va_wsS, cdw, List.mem_append, List.mem_cons, List.not_mem_nil, or_false] at hz
    rcases hz with (rfl | rfl | rfl) | (rfl | hz)
    · exact V.1
    · exact V.2.1
    · exact V.2.2.1
    · exact V.2.2.2.1
    · exact hz
  exact fun z hz => ⟨h z hz, ws_good (h z hz)⟩
section CALLS
variable {p : Program} {l : Launch} {e : Env} {R : Room} {s : State} {m : MethodId} {args : Array Value} {below : List Frame} {meth : Method} {c : Code} {H : Heap} {locs : List Loc} {Q : State → Prop}
variable {cc : ByteArray} {pc nL : Nat} {ls : Array Slot} {lv : List (Nat × Value)} {rest st0 : List Value} {D : va_G} {cI cZ : ClassId} {A : Nat → Prop} {w : nS → va_W} {σ : nS} {Ex : (Nat → Prop) → State → Heap → Prop} {own : String} {idx : Nat}
variable {y : MethodName} {b : ByteArray} {n na : Nat} {rm : Room} {o : Nat} {As : List Value} {fs : List Value} {T : u_T} {N : Nat}
theorem st_free (X : Fx p s m args meth c cc nL own D cI cZ A Ex) (S : St D w A s σ H locs) : ∀ q, va_A (w σ) H.size q → A q := by
  obtain ⟨hx, hb, hml, hown, hts, hK, hA, hE, hlk, hEo⟩ := X
  obtain ⟨hP, hD, hS⟩ := S
  intro q h
  rcases h with ⟨k, e9, h⟩ | h
  · exact hD.2 k _ h
  · exact hA q (Nat.le_trans hS.1 h)
theorem st_pre (X : Fx p s m args meth c cc nL own D cI cZ A Ex) (S : St D w A s σ H locs) (avs : List Value) : FrameBlind (va_Pc avs (Pre D cI cZ w Ex σ H.size)) ∧ ∀ U : State, U.heap = H → s.WarmedH U.vm → va_Pc avs (Pre D cI cZ w Ex σ H.size) avs.toArray U := by
  have hF := st_free X S
  obtain ⟨hx, hb, hml, hown, hts, hK, hA, hE, hlk, hEo⟩ := X
  obtain ⟨hP, hD, hS⟩ := S
  refine ⟨fun a U g mk q => ?_, fun U hU hW => ?_⟩
  · obtain ⟨q0, q1, qP, qK, qD, qE⟩ := q
    exact ⟨q0, q1, qP, va_K.moved (u := U) (U := U.calling g mk a) (Vm.Alike.refl U.vm) qK, qD, hEo.1 _ U (U.calling g mk a) _ (Vm.Alike.refl U.vm) qE⟩
  · refine ⟨rfl, by rw [hU], by rw [hU]; exact hP, va_K.moved hW.alike hK, hD.weaken (fun _ _ _ _ => trivial), ?_⟩
    rw [hU]
    exact hEo.2.2 _ _ _ _ (hEo.1 _ s U _ hW.alike (hEo.2.1 _ _ _ _ hE hS.2.1)) hF
theorem callVI {F : Int32 × nS} (X : Fx p s m args meth c cc nL own D cI cZ A Ex) (S : St D w A s σ H locs) (hl : lv_has ls nL lv) (hM : CtI l D cI cZ w Ex y b n rm (.ref o :: As) σ F) (V : VK own idx y b n (some .int) na) (q0 ci : Nat) (hr : (w σ)[q0]? = some (o, .inr (ci, fs)) ∧ clS[ci]? = some (y.cls, T, N)) (hR : RK rm n R) (hn : As.length = na) (hst : st0 = As.reverse ++ .ref o :: rest) (hcat : (rest.map fun v => v.category).sum ≤ 8) (hd : decode cc pc = .ok (.invokevirtual idx, 3))
    (kk : ∀ (r : Int32) (σ' : nS) (H : Heap) (locs : List Loc), F = (r, σ') → St D w A s σ' H locs → W p l e R s m args below meth c H locs 0 0 Q (F0 m (pc + 3) ls (.int r :: rest))) : W p l e R s m args below meth c H locs 0 0 Q (F0 m pc ls st0) := by
  have hF := st_free X S
  have hp := st_pre X S (.ref o :: As)
  obtain ⟨hx, hb, hml, hown, hts, hK, hA, hE, hlk, hEo⟩ := X
  obtain ⟨hP, hD, hS⟩ := S
  refine va_calli (va_runV (As := As) (rest := rest) ⟨hx, hb, hml, hown, hts⟩ (hM H.size) (cwV na hts (vk_good V) rfl hR.1 hR.2.1 ⟨rfl, V.2.2.2.2.2⟩ hR.2.2) ⟨hp.1, va_recv hK hP hr.2 hr.1, hp.2⟩ rfl hn hl.1 hst (lv_room hcat) hd ⟨Nat.zero_le _, Nat.zero_le _⟩) hS (fun q _ h => hF q h) hF (fun r u t H1 locs1 ht hvm h9 hB hz1 hk1 hS1 => ?_)
  obtain ⟨hP1, hK1, hD1⟩ := hB
  rw [ht] at hP1
  exact kk r u H1 locs1 h9 ⟨hP1, hD1.weaken (fun k q hk h => hF _ h), hS1⟩
theorem callVIp {F : Int32} (X : Fx p s m args meth c cc nL own D cI cZ A Ex) (S : St D w A s σ H locs) (hl : lv_has ls nL lv) (hM : CtI l D cI cZ w Ex y b n rm (.ref o :: As) σ (F, σ)) (V : VK own idx y b n (some .int) na) (q0 ci : Nat) (hr : (w σ)[q0]? = some (o, .inr (ci, fs)) ∧ clS[ci]? = some (y.cls, T, N)) (hR : RK rm n R) (hn : As.length = na) (hst : st0 = As.reverse ++ .ref o :: rest) (hcat : (rest.map fun v => v.category).sum ≤ 8) (hd : decode cc pc = .ok (.invokevirtual idx, 3))
    (kk : ∀ (H : Heap) (locs : List Loc), St D w A s σ H locs → W p l e R s m args below meth c H locs 0 0 Q (F0 m (pc + 3) ls (.int F :: rest))) : W p l e R s m args below meth c H locs 0 0 Q (F0 m pc ls st0) :=
  callVI X S hl hM V q0 ci hr hR hn hst hcat hd (fun r σ' H locs h S => by cases h; exact kk H locs S)
theorem callVZ {F : Bool × nS} (X : Fx p s m args meth c cc nL own D cI cZ A Ex) (S : St D w A s σ H locs) (hl : lv_has ls nL lv) (hM : CtZ l D cI cZ w Ex y b n rm (.ref o :: As) σ F) (V : VK own idx y b n (some .boolean) na) (q0 ci : Nat) (hr : (w σ)[q0]? = some (o, .inr (ci, fs)) ∧ clS[ci]? = some (y.cls, T, N)) (hR : RK rm n R) (hn : As.length = na) (hst : st0 = As.reverse ++ .ref o :: rest) (hcat : (rest.map fun v => v.category).sum ≤ 8) (hd : decode cc pc = .ok (.invokevirtual idx, 3))
    (kk : ∀ (r : Bool) (σ' : nS) (H : Heap) (locs : List Loc), F = (r, σ') → St D w A s σ' H locs → W p l e R s m args below meth c H locs 0 0 Q (F0 m (pc + 3) ls (.int (bI r) :: rest))) : W p l e R s m args below meth c H locs 0 0 Q (F0 m pc ls st0) := by
  have hF := st_free X S
  have hp := st_pre X S (.ref o :: As)
  obtain ⟨hx, hb, hml, hown, hts, hK, hA, hE, hlk, hEo⟩ := X
  obtain ⟨hP, hD, hS⟩ := S
  refine va_calli (va_runV (As := As) (rest := rest) ⟨hx, hb, hml, hown, hts⟩ (hM H.size) (cwV na hts (vk_good V) rfl hR.1 hR.2.1 ⟨rfl, V.2.2.2.2.2⟩ hR.2.2) ⟨hp.1, va_recv hK hP hr.2 hr.1, hp.2⟩ rfl hn hl.1 hst (lv_room hcat) hd ⟨Nat.zero_le _, Nat.zero_le _⟩) hS (fun q _ h => hF q h) hF (fun r u t H1 locs1 ht hvm h9 hB hz1 hk1 hS1 => ?_)
  obtain ⟨hP1, hK1, hD1⟩ := hB
  obtain ⟨x, rfl, h9⟩ := h9
  rw [ht] at hP1
  exact kk x u H1 locs1 h9 ⟨hP1, hD1.weaken (fun k q hk h => hF _ h), hS1⟩
theorem callVZp {F : Bool} (X : Fx p s m args meth c cc nL own D cI cZ A Ex) (S : St D w A s σ H locs) (hl : lv_has ls nL lv) (hM : CtZ l D cI cZ w Ex y b n rm (.ref o :: As) σ (F, σ)) (V : VK own idx y b n (some .boolean) na) (q0 ci : Nat) (hr : (w σ)[q0]? = some (o, .inr (ci, fs)) ∧ clS[ci]? = some (y.cls, T, N)) (hR : RK rm n R) (hn : As.length = na) (hst : st0 = As.reverse ++ .ref o :: rest) (hcat : (rest.map fun v => v.category).sum ≤ 8) (hd : decode cc pc = .ok (.invokevirtual idx, 3))
    (kk : ∀ (H : Heap) (locs : List Loc), St D w A s σ H locs → W p l e R s m args below meth c H locs 0 0 Q (F0 m (pc + 3) ls (.int (bI F) :: rest))) : W p l e R s m args below meth c H locs 0 0 Q (F0 m pc ls st0) :=
  callVZ X S hl hM V q0 ci hr hR hn hst hcat hd (fun r σ' H locs h S => by cases h; exact kk H locs S)
theorem callVV {F : nS} (X : Fx p s m args meth c cc nL own D cI cZ A Ex) (S : St D w A s σ H locs) (hl : lv_has ls nL lv) (hM : CtV l D cI cZ w Ex y b n rm (.ref o :: As) σ F) (V : VK own idx y b n none na) (q0 ci : Nat) (hr : (w σ)[q0]? = some (o, .inr (ci, fs)) ∧ clS[ci]? = some (y.cls, T, N)) (hR : RK rm n R) (hn : As.length = na) (hst : st0 = As.reverse ++ .ref o :: rest) (hcat : (rest.map fun v => v.category).sum ≤ 8) (hd : decode cc pc = .ok (.invokevirtual idx, 3))
    (kk : ∀ (σ' : nS) (H : Heap) (locs : List Loc), F = σ' → St D w A s σ' H locs → W p l e R s m args below meth c H locs 0 0 Q (F0 m (pc + 3) ls rest)) : W p l e R s m args below meth c H locs 0 0 Q (F0 m pc ls st0) := by
  have hF := st_free X S
  have hp := st_pre X S (.ref o :: As)
  obtain ⟨hx, hb, hml, hown, hts, hK, hA, hE, hlk, hEo⟩ := X
  obtain ⟨hP, hD, hS⟩ := S
  refine va_callv (va_runV (As := As) (rest := rest) ⟨hx, hb, hml, hown, hts⟩ (hM H.size) (cwV na hts (vk_good V) rfl hR.1 hR.2.1 ⟨rfl, V.2.2.2.2.2⟩ hR.2.2) ⟨hp.1, va_recv hK hP hr.2 hr.1, hp.2⟩ rfl hn hl.1 hst (lv_room hcat) hd ⟨Nat.zero_le _, Nat.zero_le _⟩) hS (fun q _ h => hF q h) hF (fun u t H1 locs1 ht hvm h9 hB hz1 hk1 hS1 => ?_)
  obtain ⟨hP1, hK1, hD1⟩ := hB
  rw [ht] at hP1
  exact kk u H1 locs1 h9 ⟨hP1, hD1.weaken (fun k q hk h => hF _ h), hS1⟩
theorem callSIp {F : Int32} (X : Fx p s m args meth c cc nL own D cI cZ A Ex) (S : St D w A s σ H locs) (hl : lv_has ls nL lv) (hM : CtI l D cI cZ w Ex y b n rm As σ (F, σ)) (V : SK own idx y b n (some .int) na) (hR : RK rm n R) (hn : As.length = na) (hst : st0 = As.reverse ++ rest) (hcat : (rest.map fun v => v.category).sum ≤ 8) (hd : decode cc pc = .ok (.invokestatic idx, 3))
    (kk : ∀ (H : Heap) (locs : List Loc), St D w A s σ H locs → W p l e R s m args below meth c H locs 0 0 Q (F0 m (pc + 3) ls (.int F :: rest))) : W p l e R s m args below meth c H locs 0 0 Q (F0 m pc ls st0) := by
  have hF := st_free X S
  have hp := st_pre X S As
  obtain ⟨hx, hb, hml, hown, hts, hK, hA, hE, hlk, hEo⟩ := X
  obtain ⟨hP, hD, hS⟩ := S
  refine va_calli (va_runS (As := As) (rest := rest) ⟨hx, hb, hml, hown, hts⟩ (hM H.size) (va_cwS na hts (sk_good V) rfl hR.1 hR.2.1 V.2.2.2.2 hR.2.2) hp rfl hn hl.1 hst (lv_room hcat) hd ⟨Nat.zero_le _, Nat.zero_le _⟩) hS (fun q _ h => hF q h) hF (fun r u t H1 locs1 ht hvm h9 hB hz1 hk1 hS1 => ?_)
  obtain ⟨hP1, hK1, hD1⟩ := hB
  cases h9
  rw [ht] at hP1
  exact kk H1 locs1 ⟨hP1, hD1.weaken (fun k q hk h => hF _ h), hS1⟩
theorem callSZp {F : Bool} (X : Fx p s m args meth c cc nL own D cI cZ A Ex) (S : St D w A s σ H locs) (hl : lv_has ls nL lv) (hM : CtZ l D cI cZ w Ex y b n rm As σ (F, σ)) (V : SK own idx y b n (some .boolean) na) (hR : RK rm n R) (hn : As.length = na) (hst : st0 = As.reverse ++ rest) (hcat : (rest.map fun v => v.category).sum ≤ 8) (hd : decode cc pc = .ok (.invokestatic idx, 3))
    (kk : ∀ (H : Heap) (locs : List Loc), St D w A s σ H locs → W p l e R s m args below meth c H locs 0 0 Q (F0 m (pc + 3) ls (.int (bI F) :: rest))) : W p l e R s m args below meth c H locs 0 0 Q (F0 m pc ls st0) := by
  have hF := st_free X S
  have hp := st_pre X S As
  obtain ⟨hx, hb, hml, hown, hts, hK, hA, hE, hlk, hEo⟩ := X
  obtain ⟨hP, hD, hS⟩ := S
  refine va_calli (va_runS (As := As) (rest := rest) ⟨hx, hb, hml, hown, hts⟩ (hM H.size) (va_cwS na hts (sk_good V) rfl hR.1 hR.2.1 V.2.2.2.2 hR.2.2) hp rfl hn hl.1 hst (lv_room hcat) hd ⟨Nat.zero_le _, Nat.zero_le _⟩) hS (fun q _ h => hF q h) hF (fun r u t H1 locs1 ht hvm h9 hB hz1 hk1 hS1 => ?_)
  obtain ⟨hP1, hK1, hD1⟩ := hB
  obtain ⟨x, rfl, h9⟩ := h9
  cases h9
  rw [ht] at hP1
  exact kk H1 locs1 ⟨hP1, hD1.weaken (fun k q hk h => hF _ h), hS1⟩
end CALLS
section SMALL
variable {p : Program} {l : Launch} {e : Env} {R : Room} {s : State} {m : MethodId} {args : Array Value} {below : List Frame} {meth : Method} {c : Code} {H : Heap} {locs : List Loc} {cells slots : Nat} {Q : State → Prop}
variable {cc : ByteArray} {pc : Nat} {ls : Array Slot} {rest : List Value}
theorem r_ci {x v : Int32} (h : x = v) (k : W p l e R s m args below meth c H locs cells slots Q (F0 m pc ls (.int v :: rest))) : W p l e R s m args below meth c H locs cells slots Q (F0 m pc ls (.int x :: rest)) := by subst h; exact k
theorem r_iushr (hx : p.tables.exec = Jvm.exec) (hb : c.code = cc) {x y : Int32} (hd : decode cc pc = .ok (.iushr, 1)) (k : W p l e R s m args below meth c H locs cells slots Q (F0 m (pc + 1) ls (.int (ush x y) :: rest))) : W p l e R s m args below meth c H locs cells slots Q (F0 m pc ls (.int y :: .int x :: rest)) := lv_iushr hx hb hd rfl k
theorem r_lushr (hx : p.tables.exec = Jvm.exec) (hb : c.code = cc) {x : Int64} {y : Int32} (hd : decode cc pc = .ok (.lushr, 1)) (k : W p l e R s m args below meth c H locs cells slots Q (F0 m (pc + 1) ls (.long (lush x y) :: rest))) : W p l e R s m args below meth c H locs cells slots Q (F0 m pc ls (.int y :: .long x :: rest)) := lv_lushr hx hb hd rfl k
theorem r_ifeqZ (hx : p.tables.exec = Jvm.exec) (hb : c.code = cc) {b : Bool} {off : Int} {tgt : Nat} (hd : decode cc pc = .ok (.ifCond .eq off, 3)) (ht : (pc : Int) + off = (tgt : Int)) (kt : ¬ b = true → W p l e R s m args below meth c H locs cells slots Q (F0 m tgt ls rest)) (kf : b = true → W p l e R s m args below meth c H locs cells slots Q (F0 m (pc + 3) ls rest)) : W p l e R s m args below meth c H locs cells slots Q (F0 m pc ls (.int (bI b) :: rest)) :=
  lv_if_eq hx hb hd ht (fun h => kt ((bI_0 b).mp h)) (fun h => kf (Classical.byContradiction fun h2 => h ((bI_0 b).mpr h2)))
theorem r_ifneZ (hx : p.tables.exec = Jvm.exec) (hb : c.code = cc) {b : Bool} {off : Int} {tgt : Nat} (hd : decode cc pc = .ok (.ifCond .ne off, 3)) (ht : (pc : Int) + off = (tgt : Int)) (kt : b = true → W p l e R s m args below meth c H locs cells slots Q (F0 m tgt ls rest)) (kf : ¬ b = true → W p l e R s m args below meth c H locs cells slots Q (F0 m (pc + 3) ls rest)) : W p l e R s m args below meth c H locs cells slots Q (F0 m pc ls (.int (bI b) :: rest)) :=
  lv_if_ne hx hb hd ht (fun h => kt (Classical.byContradiction fun h2 => h ((bI_0 b).mpr h2))) (fun h => kf ((bI_0 b).mp h))
end SMALL
