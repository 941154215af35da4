def sy_T : List Cond := lw_tbl.filter goodWord
def sy_isN : Cond → Bool
  | .fieldLinkNest .. => true
  | .methodLinkNest .. => true
  | _ => false
def sy_N : List Cond := lw_tbl.filter sy_isN
abbrev sy_w (y : MethodName) (b : ByteArray) (n : Nat) (r : Option FieldType) : List Cond := .code y b n r :: sy_T
theorem sy_good {w : Cond} (h : w ∈ sy_T) : (w.onTables && w.keeps) = true ∨ ∃ ty, w = .arrayClass ty := good_of_word (List.mem_filter.mp h).2
theorem sy_mem {i : Nat} {w : Cond} (h : lw_tbl[i]? = some w) (hg : goodWord w = true) : w ∈ sy_T := List.mem_filter.mpr ⟨List.mem_of_getElem? h, hg⟩
theorem sy_memN {i : Nat} {w : Cond} (h : lw_tbl[i]? = some w) (hg : sy_isN w = true) : w ∈ sy_N := List.mem_filter.mpr ⟨List.mem_of_getElem? h, hg⟩
theorem sy_gi {ws : List Cond} (h : ∀ w ∈ ws, w ∈ sy_T) : GoodIn sy_T ws := fun w hw => ⟨h w hw, sy_good (h w hw)⟩
theorem sy_giw {y : MethodName} {b : ByteArray} {n : Nat} {r : Option FieldType} (h : Cond.code y b n r ∈ sy_T) : GoodIn sy_T (sy_w y b n r) := sy_gi fun w hw => by
  rcases List.mem_cons.mp hw with h1 | h1
  · rw [h1]; exact h
  · exact h1
def bI (b : Bool) : Int32 := if b = true then 1 else 0
theorem bI_f {b : Bool} (h : bI b = 0) : b = false := by cases b <;> first | rfl | exact absurd h (by decide)
theorem bI_t {b : Bool} (h : ¬ bI b = 0) : b = true := by cases b <;> first | rfl | exact absurd rfl h
theorem bI_n (b : Bool) : narrow .boolean (.int (bI b)) = .int (bI b) := by cases b <;> rfl
theorem bI_v (b : Bool) : vp_nar .boolean (bI b) = bI b := by cases b <;> rfl
theorem bI_i {a b : Bool} (h : bI a = bI b) : a = b := by cases a <;> cases b <;> first | rfl | exact absurd h (by decide)
def oI (o : Option Nat) : Int32 := match o with
  | none => -1
  | some k => nI k
theorem oI_ne {k : Nat} (h : k < 2 ^ 31) : ¬ nI k = -1 := by
  intro q
  have a := nI_toInt h
  rw [q] at a
  have b : (-1 : Int32).toInt = -1 := by decide
  omega
theorem sy_opt {r : Int32} {X : Option Nat} (h : r = oI X) : ∃ o, o = X ∧ r = oI o := ⟨X, rfl, h⟩
theorem sy_a32 {a b : Int32} (h : a < b) : ¬ b ≤ a := by rw [Int32.lt_iff_toInt_lt] at h; rw [Int32.le_iff_toInt_le]; omega
theorem sy_b32 {a b : Int32} (h : ¬ a < b) : b ≤ a := by rw [Int32.lt_iff_toInt_lt] at h; rw [Int32.le_iff_toInt_le]; omega
theorem sy_c32 {a b : Int32} (h : a ≤ b) : ¬ b < a := by rw [Int32.le_iff_toInt_le] at h; rw [Int32.lt_iff_toInt_lt]; omega
theorem sy_d32 {a b : Int32} (h : ¬ a ≤ b) : b < a := by rw [Int32.le_iff_toInt_le] at h; rw [Int32.lt_iff_toInt_lt]; omega
theorem sy_a64 {a b : Int64} (h : a < b) : ¬ b ≤ a := by rw [Int64.lt_iff_toInt_lt] at h; rw [Int64.le_iff_toInt_le]; omega
theorem sy_b64 {a b : Int64} (h : ¬ a < b) : b ≤ a := by rw [Int64.lt_iff_toInt_lt] at h; rw [Int64.le_iff_toInt_le]; omega
theorem sy_c64 {a b : Int64} (h : a ≤ b) : ¬ b < a := by rw [Int64.le_iff_toInt_le] at h; rw [Int64.lt_iff_toInt_lt]; omega
theorem sy_d64 {a b : Int64} (h : ¬ a ≤ b) : b < a := by rw [Int64.le_iff_toInt_le] at h; rw [Int64.lt_iff_toInt_lt]; omega
abbrev sy_G : Type := va_G × (Nat → ClassId)
def sy_TY (ca : Nat → ClassId) : List (ClassId × FieldType) := [(ca 0, .int), (ca 1, .long), (ca 2, .boolean), (ca 3, .object R_Device), (ca 4, .object R_ToldSet)]
def sy_K (G : sy_G) (s : State) : Prop := va_K G.1 classes (sy_TY G.2) s ∧ ∀ w ∈ sy_N, va_Nw w s
def sy_KP (G : sy_G) (P : Heap → Prop) : State → Prop := fun U => P U.heap ∧ sy_K G U
theorem sy_K.same {G : sy_G} {u U : State} (h : u.vm = U.vm) (k : sy_K G u) : sy_K G U :=
  ⟨va_K.moved (by rw [h]; exact Vm.Alike.refl U.vm) k.1, fun w hw => by
    have hg := (List.mem_filter.mp hw).2
    have h2 := k.2 w hw
    cases w <;> first | exact va_Nw.same rfl h h2 | exact absurd hg (by simp [sy_isN])⟩
theorem sy_K.warm {G : sy_G} {u U : State} (h : u.WarmedH U.vm) (k : sy_K G u) : sy_K G U :=
  ⟨va_K.moved h.alike k.1, fun w hw => by
    have hg := (List.mem_filter.mp hw).2
    have h2 := k.2 w hw
    cases w <;> first | exact va_Nw.warmF h h2 | exact va_Nw.warmM h h2 | exact absurd hg (by simp [sy_isN])⟩
theorem sy_blind {av : List Value} {G : sy_G} {P : Heap → Prop} : FrameBlind (va_Pc av (sy_KP G P)) := fun a U g mk q => ⟨q.1, q.2.1, sy_K.same (u := U) (U := U.calling g mk a) rfl q.2.2⟩
section SYW
variable {p : Program} {l : Launch} {e : Env} {R : Room} {s : State} {m : MethodId} {args : Array Value} {below : List Frame} {meth : Method} {c : Code} {H : Heap} {locs : List Loc} {cells slots : Nat} {Q : State → Prop}
variable {cc : ByteArray} {pc : Nat} {ls : Array Slot} {rest : List Value} {D : va_G} {cl : List vw_C} {A : Nat → Prop} {a : Nat} {tys : List (ClassId × FieldType)} {ws : va_W} {H0 : Heap}
theorem sy_ti {x y : Int32} (h : x = y) (k : W p l e R s m args below meth c H locs cells slots Q (F0 m pc ls (.int y :: rest))) : W p l e R s m args below meth c H locs cells slots Q (F0 m pc ls (.int x :: rest)) := h ▸ k
theorem sy_tl {x y : Int64} (h : x = y) (k : W p l e R s m args below meth c H locs cells slots Q (F0 m pc ls (.long y :: rest))) : W p l e R s m args below meth c H locs cells slots Q (F0 m pc ls (.long x :: rest)) := h ▸ k
theorem sy_tr {x y : Value} (h : x = y) (k : W p l e R s m args below meth c H locs cells slots Q (F0 m pc ls (y :: rest))) : W p l e R s m args below meth c H locs cells slots Q (F0 m pc ls (x :: rest)) := h ▸ k
theorem sy_loop {σ : Type} {nL : Nat} (μ : σ → Nat) (L : σ → List (Nat × Value)) (I : σ → Prop)
    (step : ∀ (x : σ) (ls : Array Slot), I x → lv_has ls nL (L x) → (∀ (y : σ) (ls : Array Slot), μ y < μ x → I y → lv_has ls nL (L y) → W p l e R s m args below meth c H locs cells slots Q (F0 m pc ls [])) → W p l e R s m args below meth c H locs cells slots Q (F0 m pc ls []))
    (x : σ) (hi : I x) (hl : lv_has ls nL (L x)) : W p l e R s m args below meth c H locs cells slots Q (F0 m pc ls []) := by
  have K : ∀ (n : Nat) (x : σ) (ls : Array Slot), μ x < n → I x → lv_has ls nL (L x) → W p l e R s m args below meth c H locs cells slots Q (F0 m pc ls []) := by
    intro n
    induction n with
    | zero => intro x ls h; exact absurd h (Nat.not_lt_zero _)
    | succ n ih => intro x ls h hi hl; exact step x ls hi hl (fun y ls hy hi hl => ih y ls (by omega) hi hl)
  exact K (μ x + 1) x ls (Nat.lt_succ_self _) hi hl
theorem sy_loopH {σ : Type} {nL : Nat} (μ : σ → Nat) (L : σ → List (Nat × Value)) (I : σ → Heap → List Loc → Prop)
    (step : ∀ (x : σ) (H : Heap) (locs : List Loc) (ls : Array Slot), I x H locs → lv_has ls nL (L x) → (∀ (y : σ) (H : Heap) (locs : List Loc) (ls : Array Slot), μ y < μ x → I y H locs → lv_has ls nL (L y) → W p l e R s m args below meth c H locs cells slots Q (F0 m pc ls [])) → W p l e R s m args below meth c H locs cells slots Q (F0 m pc ls []))
    (x : σ) (hi : I x H locs) (hl : lv_has ls nL (L x)) : W p l e R s m args below meth c H locs cells slots Q (F0 m pc ls []) := by
  have K : ∀ (n : Nat) (x : σ) (H : Heap) (locs : List Loc) (ls : Array Slot), μ x < n → I x H locs → lv_has ls nL (L x) → W p l e R s m args below meth c H locs cells slots Q (F0 m pc ls []) := by
    intro n
    induction n with
    | zero => intro x H locs ls h; exact absurd h (Nat.not_lt_zero _)
    | succ n ih => intro x H locs ls h hi hl; exact step x H locs ls hi hl (fun y H locs ls hy hi hl => ih y H locs ls (by omega) hi hl)
  exact K (μ x + 1) x H locs ls (Nat.lt_succ_self _) hi hl
theorem sy_cut {σ : Type} {nL pc2 : Nat} {g : JFrame} (L : σ → List (Nat × Value)) (S : σ → List Value) (I : σ → Prop)
    (k1 : ∀ (x : σ) (ls : Array Slot), I x → lv_has ls nL (L x) → W p l e R s m args below meth c H locs cells slots Q (F0 m pc2 ls (S x)))
    (k2 : (∀ (x : σ) (ls : Array Slot), I x → lv_has ls nL (L x) → W p l e R s m args below meth c H locs cells slots Q (F0 m pc2 ls (S x))) → W p l e R s m args below meth c H locs cells slots Q g) : W p l e R s m args below meth c H locs cells slots Q g := k2 k1
theorem sy_iald (hexec : p.tables.exec = Jvm.exec) (hb : c.code = cc) (hK : va_K D cl tys s) (hP : va_P D cl ws H) (q0 t0 : Nat) {cA : ClassId} {n : Nat} {f : Nat → Int32} (ha : ws[q0]? = some (a, .inl (cA, n, .inl f))) (ht : tys[t0]? = some (cA, .int)) {k : Nat} (hk : k < n) (hn : n < 2 ^ 31) (hdg : decode cc pc = .ok (.iaload, 1))
    (kk : W p l e R s m args below meth c H locs cells slots Q (F0 m (pc + 1) ls (.int (f k) :: rest))) : W p l e R s m args below meth c H locs cells slots Q (F0 m pc ls (.int (nI k) :: .ref a :: rest)) :=
  va_iald hexec hb hK hP q0 t0 ha ht (vp_in_nI hk hn) hdg (by rw [nI_clamp (by omega)]; exact kk)
theorem sy_zald (hexec : p.tables.exec = Jvm.exec) (hb : c.code = cc) (hK : va_K D cl tys s) (hP : va_P D cl ws H) (q0 t0 : Nat) {cA : ClassId} {n : Nat} {f : Nat → Int32} (ha : ws[q0]? = some (a, .inl (cA, n, .inl f))) (ht : tys[t0]? = some (cA, .boolean)) {k : Nat} (hk : k < n) (hn : n < 2 ^ 31) (hdg : decode cc pc = .ok (.baload, 1))
    (kk : W p l e R s m args below meth c H locs cells slots Q (F0 m (pc + 1) ls (.int (f k) :: rest))) : W p l e R s m args below meth c H locs cells slots Q (F0 m pc ls (.int (nI k) :: .ref a :: rest)) :=
  va_zald hexec hb hK hP q0 t0 ha ht (vp_in_nI hk hn) hdg (by rw [nI_clamp (by omega)]; exact kk)
theorem sy_lald (hexec : p.tables.exec = Jvm.exec) (hb : c.code = cc) (hK : va_K D cl tys s) (hP : va_P D cl ws H) (q0 t0 : Nat) {cA : ClassId} {n : Nat} {f : Nat → Int64} (ha : ws[q0]? = some (a, .inl (cA, n, .inr (.inl f)))) (ht : tys[t0]? = some (cA, .long)) {k : Nat} (hk : k < n) (hn : n < 2 ^ 31) (hdg : decode cc pc = .ok (.laload, 1))
    (kk : W p l e R s m args below meth c H locs cells slots Q (F0 m (pc + 1) ls (.long (f k) :: rest))) : W p l e R s m args below meth c H locs cells slots Q (F0 m pc ls (.int (nI k) :: .ref a :: rest)) :=
  va_lald hexec hb hK hP q0 t0 ha ht (vp_in_nI hk hn) hdg (by rw [nI_clamp (by omega)]; exact kk)
theorem sy_aldq (hexec : p.tables.exec = Jvm.exec) (hb : c.code = cc) (hK : va_K D cl tys s) (hP : va_P D cl ws H) (q0 t0 : Nat) {cA : ClassId} {C : String} {n : Nat} {f : Nat → Option Nat} (ha : ws[q0]? = some (a, .inl (cA, n, .inr (.inr (.inr (.inr f)))))) (ht : tys[t0]? = some (cA, .object C)) {k : Nat} (hk : k < n) (hn : n < 2 ^ 31) (hdg : decode cc pc = .ok (.aaload, 1))
    (kk : W p l e R s m args below meth c H locs cells slots Q (F0 m (pc + 1) ls (va_rf (f k) :: rest))) : W p l e R s m args below meth c H locs cells slots Q (F0 m pc ls (.int (nI k) :: .ref a :: rest)) :=
  va_aldq hexec hb hK hP q0 t0 ha ht (vp_in_nI hk hn) hdg (by rw [nI_clamp (by omega)]; exact kk)
theorem sy_iast (hexec : p.tables.exec = Jvm.exec) (hb : c.code = cc) (hK : va_K D cl tys s) (hP : va_P D cl ws H) (hD : va_D A ws) (hS : va_S A H0 H locs) (q0 t0 : Nat) {cA : ClassId} {n : Nat} {f : Nat → Int32} (ha : ws[q0]? = some (a, .inl (cA, n, .inl f))) (ht : tys[t0]? = some (cA, .int)) {k : Nat} {x : Int32} (hk : k < n) (hn : n < 2 ^ 31) (hdg : decode cc pc = .ok (.iastore, 1))
    (kk : ∀ (H1 : Heap) (locs1 : List Loc), va_P D cl (ws.set q0 (a, .inl (cA, n, .inl (upd f k x)))) H1 → va_D A (ws.set q0 (a, .inl (cA, n, .inl (upd f k x)))) → va_S A H0 H1 locs1 → W p l e R s m args below meth c H1 locs1 cells slots Q (F0 m (pc + 1) ls rest)) : W p l e R s m args below meth c H locs cells slots Q (F0 m pc ls (.int x :: .int (nI k) :: .ref a :: rest)) :=
  va_iast hexec hb hK hP hD hS q0 t0 ha ht (vp_in_nI hk hn) hdg (by rw [nI_clamp (by omega)]; exact kk)
theorem sy_last (hexec : p.tables.exec = Jvm.exec) (hb : c.code = cc) (hK : va_K D cl tys s) (hP : va_P D cl ws H) (hD : va_D A ws) (hS : va_S A H0 H locs) (q0 t0 : Nat) {cA : ClassId} {n : Nat} {f : Nat → Int64} (ha : ws[q0]? = some (a, .inl (cA, n, .inr (.inl f)))) (ht : tys[t0]? = some (cA, .long)) {k : Nat} {x : Int64} (hk : k < n) (hn : n < 2 ^ 31) (hdg : decode cc pc = .ok (.lastore, 1))
    (kk : ∀ (H1 : Heap) (locs1 : List Loc), va_P D cl (ws.set q0 (a, .inl (cA, n, .inr (.inl (vp_updL f k x))))) H1 → va_D A (ws.set q0 (a, .inl (cA, n, .inr (.inl (vp_updL f k x))))) → va_S A H0 H1 locs1 → W p l e R s m args below meth c H1 locs1 cells slots Q (F0 m (pc + 1) ls rest)) : W p l e R s m args below meth c H locs cells slots Q (F0 m pc ls (.long x :: .int (nI k) :: .ref a :: rest)) :=
  va_last hexec hb hK hP hD hS q0 t0 ha ht (vp_in_nI hk hn) hdg (by rw [nI_clamp (by omega)]; exact kk)
theorem sy_zastX (hexec : p.tables.exec = Jvm.exec) (hb : c.code = cc) (hK : va_K D cl tys s) (hP : va_P D cl ws H) (hD : va_D A ws) (hS : va_S A H0 H locs) (q0 t0 : Nat) {cA : ClassId} {n : Nat} {f : Nat → Int32} (ha : ws[q0]? = some (a, .inl (cA, n, .inl f))) (ht : tys[t0]? = some (cA, .boolean)) {k : Nat} {b : Bool} (hk : k < n) (hn : n < 2 ^ 31) (hdg : decode cc pc = .ok (.bastore, 1))
    (kk : ∀ (H1 : Heap) (locs1 : List Loc), va_P D cl (ws.set q0 (a, .inl (cA, n, .inl (upd f k (bI b))))) H1 → va_D A (ws.set q0 (a, .inl (cA, n, .inl (upd f k (bI b))))) → va_S A H0 H1 locs1 → W p l e R s m args below meth c H1 locs1 cells slots Q (F0 m (pc + 1) ls rest)) : W p l e R s m args below meth c H locs cells slots Q (F0 m pc ls (.int (bI b) :: .int (nI k) :: .ref a :: rest)) :=
  va_zast hexec hb hK hP hD hS q0 t0 ha ht (vp_in_nI hk hn) hdg (by rw [nI_clamp (by omega), bI_v]; exact kk)
theorem sy_zast (hexec : p.tables.exec = Jvm.exec) (hb : c.code = cc) (hK : va_K D cl tys s) (hP : va_P D cl ws H) (hD : va_D A ws) (hS : va_S A H0 H locs) (q0 t0 : Nat) {cA : ClassId} {n : Nat} {g : Nat → Bool} (ha : ws[q0]? = some (a, .inl (cA, n, .inl (fun i => bI (g i))))) (ht : tys[t0]? = some (cA, .boolean)) {k : Nat} {b : Bool} (hk : k < n) (hn : n < 2 ^ 31) (hdg : decode cc pc = .ok (.bastore, 1))
    (kk : ∀ (H1 : Heap) (locs1 : List Loc), va_P D cl (ws.set q0 (a, .inl (cA, n, .inl (fun i => bI (va_up g k b i))))) H1 → va_D A (ws.set q0 (a, .inl (cA, n, .inl (fun i => bI (va_up g k b i))))) → va_S A H0 H1 locs1 → W p l e R s m args below meth c H1 locs1 cells slots Q (F0 m (pc + 1) ls rest)) : W p l e R s m args below meth c H locs cells slots Q (F0 m pc ls (.int (bI b) :: .int (nI k) :: .ref a :: rest)) := by
  have e : upd (fun i => bI (g i)) k (bI b) = fun i => bI (va_up g k b i) := by
    funext i
    unfold upd va_up
    by_cases h : i = k <;> simp [h]
  exact sy_zastX hexec hb hK hP hD hS q0 t0 ha ht hk hn hdg (by rw [e]; exact kk)
theorem sy_lc_ge (hexec : p.tables.exec = Jvm.exec) (hb : c.code = cc) {x y : Int64} {off : Int} {tgt : Nat} (h1 : decode cc pc = .ok (.lcmp, 1)) (h2 : decode cc (pc + 1) = .ok (.ifCond .ge off, 3)) (ht : ((pc + 1 : Nat) : Int) + off = (tgt : Int)) (kt : y ≤ x → W p l e R s m args below meth c H locs cells slots Q (F0 m tgt ls rest)) (kf : ¬ y ≤ x → W p l e R s m args below meth c H locs cells slots Q (F0 m (pc + 4) ls rest)) : W p l e R s m args below meth c H locs cells slots Q (F0 m pc ls (.long y :: .long x :: rest)) :=
  W.lcmp hexec hb h1 (lv_if_ge hexec hb h2 ht (fun h => kt ((lg_cmp_ge x y).mp h)) (fun h => kf (fun q => h ((lg_cmp_ge x y).mpr q))))
theorem sy_lc_le (hexec : p.tables.exec = Jvm.exec) (hb : c.code = cc) {x y : Int64} {off : Int} {tgt : Nat} (h1 : decode cc pc = .ok (.lcmp, 1)) (h2 : decode cc (pc + 1) = .ok (.ifCond .le off, 3)) (ht : ((pc + 1 : Nat) : Int) + off = (tgt : Int)) (kt : x ≤ y → W p l e R s m args below meth c H locs cells slots Q (F0 m tgt ls rest)) (kf : ¬ x ≤ y → W p l e R s m args below meth c H locs cells slots Q (F0 m (pc + 4) ls rest)) : W p l e R s m args below meth c H locs cells slots Q (F0 m pc ls (.long y :: .long x :: rest)) :=
  W.lcmp hexec hb h1 (lv_if_le hexec hb h2 ht (fun h => kt ((lg_cmp_le x y).mp h)) (fun h => kf (fun q => h ((lg_cmp_le x y).mpr q))))
theorem sy_lc_gt (hexec : p.tables.exec = Jvm.exec) (hb : c.code = cc) {x y : Int64} {off : Int} {tgt : Nat} (h1 : decode cc pc = .ok (.lcmp, 1)) (h2 : decode cc (pc + 1) = .ok (.ifCond .gt off, 3)) (ht : ((pc + 1 : Nat) : Int) + off = (tgt : Int)) (kt : y < x → W p l e R s m args below meth c H locs cells slots Q (F0 m tgt ls rest)) (kf : ¬ y < x → W p l e R s m args below meth c H locs cells slots Q (F0 m (pc + 4) ls rest)) : W p l e R s m args below meth c H locs cells slots Q (F0 m pc ls (.long y :: .long x :: rest)) :=
  W.lcmp hexec hb h1 (lv_if_gt hexec hb h2 ht (fun h => kt ((lg_cmp_gt x y).mp h)) (fun h => kf (fun q => h ((lg_cmp_gt x y).mpr q))))
theorem sy_lc_lt (hexec : p.tables.exec = Jvm.exec) (hb : c.code = cc) {x y : Int64} {off : Int} {tgt : Nat} (h1 : decode cc pc = .ok (.lcmp, 1)) (h2 : decode cc (pc + 1) = .ok (.ifCond .lt off, 3)) (ht : ((pc + 1 : Nat) : Int) + off = (tgt : Int)) (kt : x < y → W p l e R s m args below meth c H locs cells slots Q (F0 m tgt ls rest)) (kf : ¬ x < y → W p l e R s m args below meth c H locs cells slots Q (F0 m (pc + 4) ls rest)) : W p l e R s m args below meth c H locs cells slots Q (F0 m pc ls (.long y :: .long x :: rest)) :=
  W.lcmp hexec hb h1 (lv_if_lt hexec hb h2 ht (fun h => kt ((lg_cmp_lt x y).mp h)) (fun h => kf (fun q => h ((lg_cmp_lt x y).mpr q))))
theorem sy_lc_eq (hexec : p.tables.exec = Jvm.exec) (hb : c.code = cc) {x y : Int64} {off : Int} {tgt : Nat} (h1 : decode cc pc = .ok (.lcmp, 1)) (h2 : decode cc (pc + 1) = .ok (.ifCond .eq off, 3)) (ht : ((pc + 1 : Nat) : Int) + off = (tgt : Int)) (kt : x = y → W p l e R s m args below meth c H locs cells slots Q (F0 m tgt ls rest)) (kf : ¬ x = y → W p l e R s m args below meth c H locs cells slots Q (F0 m (pc + 4) ls rest)) : W p l e R s m args below meth c H locs cells slots Q (F0 m pc ls (.long y :: .long x :: rest)) :=
  W.lcmp hexec hb h1 (lv_if_eq hexec hb h2 ht (fun h => kt ((lg_cmp_eq x y).mp h)) (fun h => kf (fun q => h ((lg_cmp_eq x y).mpr q))))
theorem sy_lc_ne (hexec : p.tables.exec = Jvm.exec) (hb : c.code = cc) {x y : Int64} {off : Int} {tgt : Nat} (h1 : decode cc pc = .ok (.lcmp, 1)) (h2 : decode cc (pc + 1) = .ok (.ifCond .ne off, 3)) (ht : ((pc + 1 : Nat) : Int) + off = (tgt : Int)) (kt : ¬ x = y → W p l e R s m args below meth c H locs cells slots Q (F0 m tgt ls rest)) (kf : x = y → W p l e R s m args below meth c H locs cells slots Q (F0 m (pc + 4) ls rest)) : W p l e R s m args below meth c H locs cells slots Q (F0 m pc ls (.long y :: .long x :: rest)) :=
  W.lcmp hexec hb h1 (lv_if_ne hexec hb h2 ht (fun h => kt (fun q => h ((lg_cmp_eq x y).mpr q))) (fun h => kf ((lg_cmp_eq x y).mp h)))
variable {y : MethodName} {bytes : ByteArray} {maxL nL mc ms n idx : Nat} {ret : Option FieldType} {rm : Room} {Qc : Array Value → State → Outcome → State → Prop} {free : Addr → Prop} {own C host : String} {b : Addr} {As : List Value} {G : sy_G} {P : Heap → Prop}
abbrev sy_nm (y : MethodName) (n : Nat) : Prop := y.cls ≠ "java/lang/invoke/MethodHandle" ∧ y.cls ≠ "java/lang/invoke/VarHandle" ∧ (parseMethodDescriptor y.desc).map (fun d => d.parameters.length) = some n
def sy_LV (own : String) (idx : Nat) (y : MethodName) (b : ByteArray) (n : Nat) (r : Option FieldType) : Prop := Cond.code y b n r ∈ sy_T ∧ Cond.methodLink own idx y ∈ sy_T ∧ Cond.instanceMethod y ∈ sy_T ∧ Cond.selects y.cls y y ∈ sy_T ∧ Cond.initialized y.cls ∈ sy_T
def sy_LS (own : String) (idx : Nat) (y : MethodName) (b : ByteArray) (n : Nat) (r : Option FieldType) : Prop := Cond.code y b n r ∈ sy_T ∧ Cond.methodLink own idx y ∈ sy_T ∧ Cond.static y ∈ sy_T ∧ Cond.initialized y.cls ∈ sy_T
def sy_LI (own : String) (idx : Nat) (y : MethodName) (b : ByteArray) (n : Nat) : Prop := Cond.code y b n none ∈ sy_T ∧ Cond.methodLink own idx y ∈ sy_T ∧ Cond.instanceMethod y ∈ sy_T ∧ Cond.initialized y.cls ∈ sy_T
def sy_LSN (own : String) (idx : Nat) (y : MethodName) (host : String) (b : ByteArray) (n : Nat) (r : Option FieldType) : Prop := Cond.code y b n r ∈ sy_T ∧ Cond.methodLinkNest own idx y host ∈ sy_N ∧ Cond.static y ∈ sy_T ∧ Cond.initialized y.cls ∈ sy_T
def sy_LIN (own : String) (idx : Nat) (y : MethodName) (host : String) (b : ByteArray) (n : Nat) : Prop := Cond.code y b n none ∈ sy_T ∧ Cond.methodLinkNest own idx y host ∈ sy_N ∧ Cond.instanceMethod y ∈ sy_T ∧ Cond.initialized y.cls ∈ sy_T
theorem sy_runV (F : CallFix p m c cc nL s args sy_T own) (K : sy_LV own idx y bytes maxL ret) (hM : Met l y (sy_w y bytes maxL ret) rm (va_Pc (.ref b :: As) (sy_KP G P)) Qc mc ms free) (hk : sy_K G s) (hp : P H) (hrv : ∃ cell : Cell, H[b]? = some cell ∧ cell.vm.isStatics = false ∧ s.vm.findClass y.cls = some cell.cls)
    (hn : As.length = n) (hd : sy_nm y n) (hrc : rm.cells = mc) (hrs : rm.slots = ms) (hR : rm.frames + 1 ≤ R.frames ∧ 8 + (maxL + 11) + rm.locals ≤ R.locals) (hsize : ls.size = nL) (hW : (rest.map fun v => v.category).sum ≤ 8) (hdg : decode cc pc = .ok (.invokevirtual idx, 3)) (hf : cells + mc ≤ R.cells ∧ slots + ms ≤ R.slots) :
    va_Run p l e R s m args below meth c H locs cells slots mc ms (F0 m pc ls (As.reverse ++ .ref b :: rest)) rest (Qc (Value.ref b :: As).toArray) (free) := by
  obtain ⟨k1, k2, k3, k4, k5⟩ := K
  refine va_runV F hM (cwV (C := y.cls) n F.2.2.2.2 (sy_gi fun w hw => ?_) rfl hrc hrs ⟨rfl, hd⟩ hR) ⟨sy_blind, hrv, fun U hU hWm => ⟨rfl, by rw [hU]; exact hp, hk.warm hWm⟩⟩ rfl hn hsize rfl (lv_room hW) hdg hf
  unfold wsV at hw
  rcases List.mem_append.mp hw with h | h
  · simp only [List.mem_cons, List.not_mem_nil, or_false] at h
    rcases h with h | h | h | h <;> rw [h] <;> assumption
  · exact (sy_giw k1 w h).1
theorem sy_runS (F : CallFix p m c cc nL s args sy_T own) (K : sy_LS own idx y bytes maxL ret) (hM : Met l y (sy_w y bytes maxL ret) rm (va_Pc As (sy_KP G P)) Qc mc ms free) (hk : sy_K G s) (hp : P H)
    (hn : As.length = n) (hd : sy_nm y n) (hrc : rm.cells = mc) (hrs : rm.slots = ms) (hR : rm.frames + 1 ≤ R.frames ∧ 8 + (maxL + 11) + rm.locals ≤ R.locals) (hsize : ls.size = nL) (hW : (rest.map fun v => v.category).sum ≤ 8) (hdg : decode cc pc = .ok (.invokestatic idx, 3)) (hf : cells + mc ≤ R.cells ∧ slots + ms ≤ R.slots) :
    va_Run p l e R s m args below meth c H locs cells slots mc ms (F0 m pc ls (As.reverse ++ rest)) rest (Qc As.toArray) (free) := by
  obtain ⟨k1, k2, k3, k4⟩ := K
  refine va_runS F hM (va_cwS n F.2.2.2.2 (sy_gi fun w hw => ?_) rfl hrc hrs hd hR) ⟨sy_blind, fun U hU hWm => ⟨rfl, by rw [hU]; exact hp, hk.warm hWm⟩⟩ rfl hn hsize rfl (lv_room hW) hdg hf
  unfold va_wsS at hw
  rcases List.mem_append.mp hw with h | h
  · simp only [List.mem_cons, List.not_mem_nil, or_false] at h
    rcases h with h | h | h <;> rw [h] <;> assumption
  · exact (sy_giw k1 w h).1
theorem sy_runI (F : CallFix p m c cc nL s args sy_T own) (K : sy_LI own idx y bytes maxL) (hM : Met l y (sy_w y bytes maxL none) rm (va_Pc (.ref b :: As) (sy_KP G P)) Qc mc ms free) (hk : sy_K G s) (hp : P H) (hy : y.name = "<init>")
    (hn : As.length = n) (hd : sy_nm y n) (hrc : rm.cells = mc) (hrs : rm.slots = ms) (hR : rm.frames + 1 ≤ R.frames ∧ 8 + (maxL + 11) + rm.locals ≤ R.locals) (hsize : ls.size = nL) (hW : (rest.map fun v => v.category).sum ≤ 8) (hdg : decode cc pc = .ok (.invokespecial idx, 3)) (hf : cells + mc ≤ R.cells ∧ slots + ms ≤ R.slots) :
    va_Run p l e R s m args below meth c H locs cells slots mc ms (F0 m pc ls (As.reverse ++ .ref b :: rest)) rest (Qc (Value.ref b :: As).toArray) (free) := by
  obtain ⟨k1, k2, k3, k4⟩ := K
  exact va_runI F hM (cwI n F.2.2.2.2 (sy_giw k1) rfl hrc hrs (F.2.2.2.2 _ k4) (F.2.2.2.2 _ k2) (F.2.2.2.2 _ k3) hy hd hR) ⟨sy_blind, fun U hU hWm => ⟨rfl, by rw [hU]; exact hp, hk.warm hWm⟩⟩ rfl hn hsize rfl (lv_room hW) hdg hf
theorem sy_runSN (F : CallFix p m c cc nL s args sy_T own) (K : sy_LSN own idx y host bytes maxL ret) (hM : Met l y (sy_w y bytes maxL ret) rm (va_Pc As (sy_KP G P)) Qc mc ms free) (hk : sy_K G s) (hp : P H)
    (hn : As.length = n) (hd : sy_nm y n) (hrc : rm.cells = mc) (hrs : rm.slots = ms) (hR : rm.frames + 1 ≤ R.frames ∧ 8 + (maxL + 11) + rm.locals ≤ R.locals) (hsize : ls.size = nL) (hW : (rest.map fun v => v.category).sum ≤ 8) (hdg : decode cc pc = .ok (.invokestatic idx, 3)) (hf : cells + mc ≤ R.cells ∧ slots + ms ≤ R.slots) :
    va_Run p l e R s m args below meth c H locs cells slots mc ms (F0 m pc ls (As.reverse ++ rest)) rest (Qc As.toArray) (free) := by
  obtain ⟨k1, k2, k3, k4⟩ := K
  exact va_runSN F hM ⟨va_cnB n F.2.2.2.2 (sy_giw k1) rfl hrc hrs (hk.2 _ k2) (F.2.2.2.2 _ k4) hd hR, F.2.2.2.2 _ k3, trivial⟩ ⟨sy_blind, fun U hU hWm => ⟨rfl, by rw [hU]; exact hp, hk.warm hWm⟩⟩ rfl hn hsize rfl (lv_room hW) hdg hf
theorem sy_runIN (F : CallFix p m c cc nL s args sy_T own) (K : sy_LIN own idx y host bytes maxL) (hM : Met l y (sy_w y bytes maxL none) rm (va_Pc (.ref b :: As) (sy_KP G P)) Qc mc ms free) (hk : sy_K G s) (hp : P H) (hy : y.name = "<init>")
    (hn : As.length = n) (hd : sy_nm y n) (hrc : rm.cells = mc) (hrs : rm.slots = ms) (hR : rm.frames + 1 ≤ R.frames ∧ 8 + (maxL + 11) + rm.locals ≤ R.locals) (hsize : ls.size = nL) (hW : (rest.map fun v => v.category).sum ≤ 8) (hdg : decode cc pc = .ok (.invokespecial idx, 3)) (hf : cells + mc ≤ R.cells ∧ slots + ms ≤ R.slots) :
    va_Run p l e R s m args below meth c H locs cells slots mc ms (F0 m pc ls (As.reverse ++ .ref b :: rest)) rest (Qc (Value.ref b :: As).toArray) (free) := by
  obtain ⟨k1, k2, k3, k4⟩ := K
  exact va_runIN F hM ⟨va_cnB n F.2.2.2.2 (sy_giw k1) rfl hrc hrs (hk.2 _ k2) (F.2.2.2.2 _ k4) hd hR, hy, F.2.2.2.2 _ k3⟩ ⟨sy_blind, fun U hU hWm => ⟨rfl, by rw [hU]; exact hp, hk.warm hWm⟩⟩ rfl hn hsize rfl (lv_room hW) hdg hf
end SYW
def sy_A (ws : va_W) : Nat → Prop := fun q => ∃ (k : Nat) (e : va_E), ws[k]? = some (q, e)
theorem sy_self {ws : va_W} {A : Nat → Prop} (h : va_D A ws) : va_D (sy_A ws) ws := ⟨h.1, fun k q hk => ⟨k, q.2, hk⟩⟩
theorem sy_any {ws : va_W} {A : Nat → Prop} (h : va_D A ws) : va_D (fun _ => True) ws := ⟨h.1, fun _ _ _ => trivial⟩
theorem sy_in {ws : va_W} {A : Nat → Prop} (h : va_D A ws) {q : Nat} (hq : sy_A ws q) : A q := by
  obtain ⟨k, e, hk⟩ := hq
  exact h.2 k _ hk
theorem sy_Da {ws ws' : va_W} {A : Nat → Prop} (h : va_D A ws) (e : ws'.map Prod.fst = ws.map Prod.fst) : va_D A ws' := by
  have K : ∀ (k : Nat) (q : Nat × va_E), ws'[k]? = some q → ∃ q2, ws[k]? = some q2 ∧ q2.1 = q.1 := by
    intro k q hk
    have h1 : (ws'.map Prod.fst)[k]? = some q.1 := by rw [List.getElem?_map, hk]; rfl
    rw [e, List.getElem?_map] at h1
    cases h2 : ws[k]? with
    | none => rw [h2] at h1; cases h1
    | some q2 => rw [h2] at h1; exact ⟨q2, rfl, Option.some.inj h1⟩
  refine ⟨fun i j p q hi hj hpq => ?_, fun k q hk => ?_⟩
  · obtain ⟨p2, a1, a2⟩ := K i p hi
    obtain ⟨q2, b1, b2⟩ := K j q hj
    exact h.1 i j p2 q2 a1 b1 (by rw [a2, b2, hpq])
  · obtain ⟨q2, a1, a2⟩ := K k q hk
    rw [← a2]
    exact h.2 k q2 a1
def sy_sm (ws : va_W) : List Nat → va_W → va_W
  | i :: is, c :: w => (sy_sm ws is w).set i c
  | _, _ => ws
theorem sy_sm_at {ws : va_W} : ∀ (is : List Nat) (w : va_W), w.length = is.length → ∀ (k : Nat) (q : Nat × va_E), (sy_sm ws is w)[k]? = some q → q ∈ w ∨ (k ∉ is ∧ ws[k]? = some q) := by
  intro is
  induction is with
  | nil => intro w hl k q h; cases w with
    | nil => exact Or.inr ⟨List.not_mem_nil, h⟩
    | cons c w => simp at hl
  | cons i is ih =>
    intro w hl k q h
    cases w with
    | nil => simp at hl
    | cons c w =>
      simp only [sy_sm] at h
      by_cases hk : k = i
      · subst hk
        rw [List.getElem?_set_self'] at h
        cases h2 : (sy_sm ws is w)[k]? with
        | none => rw [h2] at h; cases h
        | some z => rw [h2] at h; cases h; exact Or.inl List.mem_cons_self
      · rw [List.getElem?_set_ne (fun e => hk e.symm)] at h
        rcases ih w (by simpa using hl) k q h with h1 | ⟨h1, h2⟩
        · exact Or.inl (List.mem_cons_of_mem _ h1)
        · exact Or.inr ⟨fun hm => by rcases List.mem_cons.mp hm with e | e; exact hk e; exact h1 e, h2⟩
theorem sy_mix {D : va_G} {cl : List vw_C} {A : Nat → Prop} {ws wc w1 : va_W} {H H1 : Heap} (hP : va_P D cl ws H) (hD : va_D A ws) (is : List Nat) (hc : is.map (fun i => ws[i]?) = wc.map some) (hl : w1.length = is.length)
    (hk : ∀ q : Nat, q < H.size → ¬ sy_A wc q → H1[q]? = H[q]?) (hP1 : va_P D cl w1 H1) : va_P D cl (sy_sm ws is w1) H1 := by
  intro k q h
  rcases sy_sm_at is w1 hl k q h with h1 | ⟨h1, h2⟩
  · obtain ⟨j, hj⟩ := List.getElem?_of_mem h1
    exact hP1 j q hj
  · refine (hP k q h2).kept (hk q.1 (hP k q h2).lt ?_)
    rintro ⟨j, e, hj⟩
    have h3 : (is.map (fun i => ws[i]?))[j]? = some (some (q.1, e)) := by rw [hc, List.getElem?_map, hj]; rfl
    rw [List.getElem?_map] at h3
    cases h4 : is[j]? with
    | none => rw [h4] at h3; cases h3
    | some i =>
      rw [h4] at h3
      have h5 : ws[i]? = some (q.1, e) := Option.some.inj h3
      have h6 := hD.1 k i q (q.1, e) h2 h5 rfl
      subst h6
      exact h1 (List.mem_of_getElem? h4)
