abbrev sid : Type := Nat ⊕ ((Nat × Nat) ⊕ (Nat × Nat))
abbrev sx (k : Nat) : sid := .inl k
abbrev sd (d k : Nat) : sid := .inr (.inl (d, k))
abbrev ss (j k : Nat) : sid := .inr (.inr (j, k))
def cl_x (ca : Nat → ClassId) (g : Nat → Nat) (c : cs) : va_W := xw ca g c.nd c.ns c.nb ++ (tw ca (g 3) (fun k => g (4 + k)) c.nT c.fI c.fL ++ cw ca (g 11) (fun k => g (12 + k)) c.nC c.gI c.gL)
def cl_d (ca : Nat → ClassId) (g : Nat → Nat) (c : cs) (d : Nat) : va_W := dq ca (g (20 + 4 * d)) (g (21 + 4 * d)) (fun k => g (22 + 4 * d + k)) (c.dl d) (c.df d) (c.dm d) (c.dk d)
def cl_s (g : Nat → Nat) (c : cs) (j : Nat) : va_W := sq (g (40 + 3 * j)) (g (41 + 3 * j)) (g (42 + 3 * j)) (c.so j) (c.sh j) (c.sv j)
def sy_cell (ca : Nat → ClassId) (g : Nat → Nat) (c : cs) : sid → Option (Nat × va_E)
  | .inl k => (cl_x ca g c)[k]?
  | .inr (.inl (d, k)) => if d < c.nd then (cl_d ca g c d)[k]? else none
  | .inr (.inr (j, k)) => if j < c.ns then (cl_s g c j)[k]? else none
def sys_P (G : sy_G) (g : Nat → Nat) (c : cs) (H : Heap) : Prop := ∀ (i : sid) (q : Nat × va_E), sy_cell G.2 g c i = some q → va_at G.1 classes q H
def sys_D (A : Nat → Prop) (G : sy_G) (g : Nat → Nat) (c : cs) : Prop := (∀ (i j : sid) (p q : Nat × va_E), sy_cell G.2 g c i = some p → sy_cell G.2 g c j = some q → p.1 = q.1 → i = j) ∧ ∀ (i : sid) (q : Nat × va_E), sy_cell G.2 g c i = some q → A q.1
def sys_A (G : sy_G) (g : Nat → Nat) (c : cs) : Nat → Prop := fun a => ∃ (i : sid) (e : va_E), sy_cell G.2 g c i = some (a, e)
theorem ss_at {α β : Type} {f : α → Option β} {ids : List α} {L : List β} (e : ids.map f = L.map some) {k : Nat} {q : β} (h : L[k]? = some q) : ∃ i, ids[k]? = some i ∧ f i = some q := by
  have h1 : (ids.map f)[k]? = some (some q) := by rw [e, List.getElem?_map, h]; rfl
  rw [List.getElem?_map] at h1
  cases hi : ids[k]? with
  | none => rw [hi] at h1; cases h1
  | some i => rw [hi] at h1; exact ⟨i, rfl, Option.some.inj h1⟩
theorem ss_at2 {α β : Type} {f : α → Option β} {ids : List α} {L : List β} (e : ids.map f = L.map some) {k : Nat} {i : α} (h : ids[k]? = some i) : ∃ q, L[k]? = some q ∧ f i = some q := by
  have h1 : (L.map some)[k]? = some (f i) := by rw [← e, List.getElem?_map, h]; rfl
  rw [List.getElem?_map] at h1
  cases hq : L[k]? with
  | none => rw [hq] at h1; cases h1
  | some q => rw [hq] at h1; exact ⟨q, rfl, (Option.some.inj h1).symm⟩
section SS
variable {G : sy_G} {g : Nat → Nat} {c c' : cs} {H H1 : Heap} {A : Nat → Prop}
theorem ss_sub (hP : sys_P G g c H) (ids : List sid) {L : va_W} (e : ids.map (sy_cell G.2 g c) = L.map some) : va_P G.1 classes L H := fun k q h => by
  obtain ⟨i, _, hi⟩ := ss_at e h
  exact hP i q hi
theorem ss_subD (hD : sys_D A G g c) (ids : List sid) (hn : ids.Nodup) {L : va_W} (e : ids.map (sy_cell G.2 g c) = L.map some) : va_D A L := by
  refine ⟨fun i j p q hi hj hpq => ?_, fun k q h => ?_⟩
  · obtain ⟨a, ha, ha2⟩ := ss_at e hi
    obtain ⟨b, hb, hb2⟩ := ss_at e hj
    have hab := hD.1 a b p q ha2 hb2 hpq
    subst hab
    exact (List.getElem?_inj (List.getElem?_eq_some_iff.mp ha).1 hn).mp (ha.trans hb.symm)
  · obtain ⟨i, _, hi⟩ := ss_at e h
    exact hD.2 i q hi
theorem ss_A {ids : List sid} {L : va_W} (e : ids.map (sy_cell G.2 g c) = L.map some) {q : Nat} (h : sy_A L q) : sys_A G g c q := by
  obtain ⟨k, e9, hk⟩ := h
  obtain ⟨i, _, hi⟩ := ss_at e hk
  exact ⟨i, e9, hi⟩
theorem ss_set (hP : sys_P G g c H) (hD : sys_D A G g c) (ids : List sid) {L L' : va_W} (e : ids.map (sy_cell G.2 g c) = L.map some) (e' : ids.map (sy_cell G.2 g c') = L'.map some) (ho : ∀ i, i ∉ ids → sy_cell G.2 g c' i = sy_cell G.2 g c i)
    (hk : ∀ q : Nat, q < H.size → ¬ sy_A L q → H1[q]? = H[q]?) (hP' : va_P G.1 classes L' H1) : sys_P G g c' H1 := by
  intro i q hi
  by_cases hm : i ∈ ids
  · obtain ⟨k, hk2⟩ := List.getElem?_of_mem hm
    obtain ⟨q2, h1, h2⟩ := ss_at2 e' hk2
    rw [hi] at h2
    cases h2
    exact hP' k q h1
  · rw [ho i hm] at hi
    have ha := hP i q hi
    refine ha.kept (hk q.1 ha.lt ?_)
    rintro ⟨k, e9, h9⟩
    obtain ⟨i2, h1, h2⟩ := ss_at e h9
    have := hD.1 i i2 q (q.1, e9) hi h2 rfl
    subst this
    exact hm (List.mem_of_getElem? h1)
theorem ss_kept (hP : sys_P G g c H) (hk : ∀ q : Nat, sys_A G g c q → H1[q]? = H[q]?) : sys_P G g c H1 := fun i q hi => (hP i q hi).kept (hk q.1 ⟨i, q.2, hi⟩)
theorem ss_setD (hD : sys_D A G g c) (ha : ∀ i, (sy_cell G.2 g c' i).map Prod.fst = (sy_cell G.2 g c i).map Prod.fst) : sys_D A G g c' := by
  have K : ∀ i q, sy_cell G.2 g c' i = some q → ∃ q2, sy_cell G.2 g c i = some q2 ∧ q2.1 = q.1 := by
    intro i q h
    have h1 := ha i
    rw [h] at h1
    cases h2 : sy_cell G.2 g c i with
    | none => rw [h2] at h1; cases h1
    | some q2 => rw [h2] at h1; exact ⟨q2, rfl, (Option.some.inj h1).symm⟩
  refine ⟨fun i j p q hi hj hpq => ?_, fun i q hi => ?_⟩
  · obtain ⟨p2, a1, a2⟩ := K i p hi
    obtain ⟨q2, b1, b2⟩ := K j q hj
    exact hD.1 i j p2 q2 a1 b1 (by rw [a2, b2, hpq])
  · obtain ⟨q2, a1, a2⟩ := K i q hi
    rw [← a2]
    exact hD.2 i q2 a1
theorem ss_anyD (hD : sys_D A G g c) : sys_D (fun _ => True) G g c := ⟨hD.1, fun _ _ _ => trivial⟩
theorem ss_selfD (hD : sys_D A G g c) : sys_D (sys_A G g c) G g c := ⟨hD.1, fun i q h => ⟨i, q.2, h⟩⟩
theorem ss_in (hD : sys_D A G g c) {q : Nat} (h : sys_A G g c q) : A q := by
  obtain ⟨i, e, hi⟩ := h
  exact hD.2 i _ hi
theorem ss_Aa (ha : ∀ i, (sy_cell G.2 g c' i).map Prod.fst = (sy_cell G.2 g c i).map Prod.fst) {q : Nat} (h : sys_A G g c' q) : sys_A G g c q := by
  obtain ⟨i, e, hi⟩ := h
  have h1 := ha i
  rw [hi] at h1
  cases h2 : sy_cell G.2 g c i with
  | none => rw [h2] at h1; cases h1
  | some q2 =>
    rw [h2] at h1
    have h3 : q = q2.1 := Option.some.inj h1
    exact ⟨i, q2.2, by rw [h2, h3]⟩
theorem ce_d {ca : Nat → ClassId} {d : Nat} (hd : d < c.nd) (k : Nat) : sy_cell ca g c (sd d k) = (cl_d ca g c d)[k]? := if_pos hd
theorem ce_s {ca : Nat → ClassId} {j : Nat} (hj : j < c.ns) (k : Nat) : sy_cell ca g c (ss j k) = (cl_s g c j)[k]? := if_pos hj
theorem ce_d4 {ca : Nat → ClassId} {d k : Nat} (hk : 4 ≤ k) : sy_cell ca g c (sd d k) = none := by
  show (if d < c.nd then (cl_d ca g c d)[k]? else none) = none
  rw [List.getElem?_eq_none (show (cl_d ca g c d).length ≤ k from hk)]
  split <;> rfl
theorem ce_s3 {ca : Nat → ClassId} {j k : Nat} (hk : 3 ≤ k) : sy_cell ca g c (ss j k) = none := by
  show (if j < c.ns then (cl_s g c j)[k]? else none) = none
  rw [List.getElem?_eq_none (show (cl_s g c j).length ≤ k from hk)]
  split <;> rfl
theorem ce_x17 {ca : Nat → ClassId} {k : Nat} (hk : 17 ≤ k) : sy_cell ca g c (sx k) = none := List.getElem?_eq_none (show (cl_x ca g c).length ≤ k from hk)
theorem cl_s_z {z : Nat} {o : Int32} {h v : Nat → Int64} : cl_s g (c.z z o h v) z = sq (g (40 + 3 * z)) (g (41 + 3 * z)) (g (42 + 3 * z)) o h v := by
  show sq _ _ _ (va_up c.so z o z) (va_up c.sh z h z) (va_up c.sv z v z) = _
  rw [va_up_s, va_up_s, va_up_s]
theorem cl_s_n {z j : Nat} {o : Int32} {h v : Nat → Int64} (e : j ≠ z) : cl_s g (c.z z o h v) j = cl_s g c j := by
  show sq _ _ _ (va_up c.so z o j) (va_up c.sh z h j) (va_up c.sv z v j) = _
  rw [va_up_n e, va_up_n e, va_up_n e]; rfl
theorem cl_d_z {ca : Nat → ClassId} {z l m : Nat} {f : Int64} {k : Nat → Nat → Int64} : cl_d ca g (c.d z l f m k) z = dq ca (g (20 + 4 * z)) (g (21 + 4 * z)) (fun k => g (22 + 4 * z + k)) l f m k := by
  show dq _ _ _ _ (va_up c.dl z l z) (va_up c.df z f z) (va_up c.dm z m z) (va_up c.dk z k z) = _
  rw [va_up_s, va_up_s, va_up_s, va_up_s]
theorem cl_d_n {ca : Nat → ClassId} {z l m j : Nat} {f : Int64} {k : Nat → Nat → Int64} (e : j ≠ z) : cl_d ca g (c.d z l f m k) j = cl_d ca g c j := by
  show dq _ _ _ _ (va_up c.dl z l j) (va_up c.df z f j) (va_up c.dm z m j) (va_up c.dk z k j) = _
  rw [va_up_n e, va_up_n e, va_up_n e, va_up_n e]; rfl
theorem ce_z {ca : Nat → ClassId} {z : Nat} {o : Int32} {h v : Nat → Int64} {ids : List sid} (hi : ∀ k, k < 3 → ss z k ∈ ids) (i : sid) (hn : i ∉ ids) : sy_cell ca g (c.z z o h v) i = sy_cell ca g c i := by
  rcases i with k | ⟨d, k⟩ | ⟨j, k⟩
  · rfl
  · rfl
  · by_cases e : j = z
    · subst e
      have hk : 3 ≤ k := Nat.le_of_not_lt fun q => hn (hi k q)
      rw [show (Sum.inr (Sum.inr (j, k)) : sid) = ss j k from rfl, ce_s3 hk, ce_s3 hk]
    · show (if j < c.ns then (cl_s g (c.z z o h v) j)[k]? else none) = _
      rw [cl_s_n e]; rfl
theorem ce_dz {ca : Nat → ClassId} {z l m : Nat} {f : Int64} {kf : Nat → Nat → Int64} {ids : List sid} (hi : ∀ k, k < 4 → sd z k ∈ ids) (i : sid) (hn : i ∉ ids) : sy_cell ca g (c.d z l f m kf) i = sy_cell ca g c i := by
  rcases i with k | ⟨d, k⟩ | ⟨j, k⟩
  · rfl
  · by_cases e : d = z
    · subst e
      have hk : 4 ≤ k := Nat.le_of_not_lt fun q => hn (hi k q)
      rw [show (Sum.inr (Sum.inl (d, k)) : sid) = sd d k from rfl, ce_d4 hk, ce_d4 hk]
    · show (if d < c.nd then (cl_d ca g (c.d z l f m kf) d)[k]? else none) = _
      rw [cl_d_n e]; rfl
  · rfl
theorem ca_z {ca : Nat → ClassId} {z : Nat} {o : Int32} {h v : Nat → Int64} (i : sid) : (sy_cell ca g (c.z z o h v) i).map Prod.fst = (sy_cell ca g c i).map Prod.fst := by
  rcases i with k | ⟨d, k⟩ | ⟨j, k⟩
  · rfl
  · rfl
  · show (if j < c.ns then (cl_s g (c.z z o h v) j)[k]? else none).map Prod.fst = (if j < c.ns then (cl_s g c j)[k]? else none).map Prod.fst
    split
    · rw [← List.getElem?_map, ← List.getElem?_map]; rfl
    · rfl
theorem ca_d {ca : Nat → ClassId} {z l m : Nat} {f : Int64} {kf : Nat → Nat → Int64} (i : sid) : (sy_cell ca g (c.d z l f m kf) i).map Prod.fst = (sy_cell ca g c i).map Prod.fst := by
  rcases i with k | ⟨d, k⟩ | ⟨j, k⟩
  · rfl
  · show (if d < c.nd then (cl_d ca g (c.d z l f m kf) d)[k]? else none).map Prod.fst = (if d < c.nd then (cl_d ca g c d)[k]? else none).map Prod.fst
    split
    · rw [← List.getElem?_map, ← List.getElem?_map]; rfl
    · rfl
  · rfl
theorem ca_x {ca : Nat → ClassId} (hx : (cl_x ca g c').map Prod.fst = (cl_x ca g c).map Prod.fst) (hd : ∀ d k, sy_cell ca g c' (sd d k) = sy_cell ca g c (sd d k)) (hs : ∀ j k, sy_cell ca g c' (ss j k) = sy_cell ca g c (ss j k)) (i : sid) : (sy_cell ca g c' i).map Prod.fst = (sy_cell ca g c i).map Prod.fst := by
  rcases i with k | ⟨d, k⟩ | ⟨j, k⟩
  · show ((cl_x ca g c')[k]?).map Prod.fst = ((cl_x ca g c)[k]?).map Prod.fst
    rw [← List.getElem?_map, ← List.getElem?_map, hx]
  · exact congrArg _ (hd d k)
  · exact congrArg _ (hs j k)
theorem ca_b {ca : Nat → ClassId} {n : Nat} (i : sid) : (sy_cell ca g (c.b n) i).map Prod.fst = (sy_cell ca g c i).map Prod.fst := ca_x (c := c) (c' := c.b n) (g := g) (ca := ca) rfl (fun _ _ => rfl) (fun _ _ => rfl) i
theorem ca_t {ca : Nat → ClassId} {p : tl_S} (i : sid) : (sy_cell ca g (c.t p) i).map Prod.fst = (sy_cell ca g c i).map Prod.fst := ca_x (c := c) (c' := c.t p) (g := g) (ca := ca) rfl (fun _ _ => rfl) (fun _ _ => rfl) i
theorem ca_co {ca : Nat → ClassId} {p : tl_S} (i : sid) : (sy_cell ca g (c.co p) i).map Prod.fst = (sy_cell ca g c i).map Prod.fst := ca_x (c := c) (c' := c.co p) (g := g) (ca := ca) rfl (fun _ _ => rfl) (fun _ _ => rfl) i
theorem ce_xk {ca : Nat → ClassId} {ids : List sid} (h : ∀ k, k < 17 → sx k ∈ ids ∨ sy_cell ca g c' (sx k) = sy_cell ca g c (sx k)) (k : Nat) (hn : sx k ∉ ids) : sy_cell ca g c' (sx k) = sy_cell ca g c (sx k) := by
  by_cases q : k < 17
  · exact (h k q).resolve_left hn
  · rw [ce_x17 (by omega), ce_x17 (by omega)]
theorem ss_17 {P : Nat → Prop} (h0 : P 0) (h1 : P 1) (h2 : P 2) (h3 : P 3) (h4 : P 4) (h5 : P 5) (h6 : P 6) (h7 : P 7) (h8 : P 8) (h9 : P 9) (h10 : P 10) (h11 : P 11) (h12 : P 12) (h13 : P 13) (h14 : P 14) (h15 : P 15) (h16 : P 16) (k : Nat) (hk : k < 17) : P k := by
  rcases (show k = 0 ∨ k = 1 ∨ k = 2 ∨ k = 3 ∨ k = 4 ∨ k = 5 ∨ k = 6 ∨ k = 7 ∨ k = 8 ∨ k = 9 ∨ k = 10 ∨ k = 11 ∨ k = 12 ∨ k = 13 ∨ k = 14 ∨ k = 15 ∨ k = 16 by omega) with e | e | e | e | e | e | e | e | e | e | e | e | e | e | e | e | e <;> subst e <;> assumption
end SS
section SM
variable {l : Launch} {y : MethodName} {ws : List Cond} {rm : Room} {av : List Value} {G : sy_G} {g : Nat → Nat} {c c' : cs} {L : va_W} {mc ms : Nat}
abbrev sy_Sp (G : sy_G) (g : Nat → Nat) (c : cs) : Heap → Prop := fun H => sys_P G g c H ∧ sys_D (fun _ => True) G g c
theorem sy_mono {Pc Pc' : Array Value → State → Prop} {Qc Qc' : Array Value → State → Outcome → State → Prop} {free free' : Addr → Prop} (h : Met l y ws rm Pc Qc mc ms free) (hP : ∀ a s, Pc' a s → Pc a s) (hQ : ∀ a s o t, Pc' a s → Qc a s o t → Qc' a s o t) (hf : ∀ q, free q → free' q) : Met l y ws rm Pc' Qc' mc ms free' :=
  MetFree.mono h hP (fun _ _ _ _ _ k => k) (fun a s o t hp hq => ⟨hQ a s o t hp hq.1, by obtain ⟨L, h1, h2⟩ := hq.2; exact ⟨L, h1, fun q hq => hf _ (h2 q hq)⟩⟩)
theorem sm_i {S : Type} {post : Int32 → S → Prop} {Lu : S → va_W} {a : Int32} (hM : Met l y ws rm (va_Pc av (sy_KP G (fun H => va_P G.1 classes L H ∧ va_D (fun _ => True) L))) (va_Qi (S := S) post (fun u t => va_P G.1 classes (Lu u) t.heap) (sy_A L)) mc ms (sy_A L)) (ids : List sid) (hn : ids.Nodup) (e : ids.map (sy_cell G.2 g c) = L.map some)
    (hu : ∀ r u, post r u → r = a ∧ ids.map (sy_cell G.2 g c') = (Lu u).map some) (ho : ∀ i, i ∉ ids → sy_cell G.2 g c' i = sy_cell G.2 g c i) :
    Met l y ws rm (va_Pc av (sy_KP G (sy_Sp G g c))) (va_Qi (S := cs) (fun r u => r = a ∧ u = c') (fun u t => sys_P G g u t.heap) (sys_A G g c)) mc ms (sys_A G g c) := by
  refine sy_mono hM (fun _ s hp => ⟨hp.1, ⟨ss_sub hp.2.1.1 ids e, ss_subD hp.2.1.2 ids hn e⟩, hp.2.2⟩) (fun _ s o t hp hq => ?_) (fun q h => ss_A e h)
  obtain ⟨⟨r, u, h1, h2, h3⟩, h4, h5⟩ := hq
  obtain ⟨hr, e'⟩ := hu r u h2
  exact ⟨⟨r, c', h1, ⟨hr, rfl⟩, ss_set hp.2.1.1 hp.2.1.2 ids e e' ho h5 h3⟩, h4, fun q h6 h7 => h5 q h6 (fun h8 => h7 (ss_A e h8))⟩
theorem sm_ix {S : Type} {post : Int32 → S → Prop} {Lu : S → va_W} {a : Int32} {Z : Heap → Prop} (hM : Met l y ws rm (va_Pc av (sy_KP G (fun H => va_P G.1 classes L H ∧ va_D (fun _ => True) L ∧ Z H))) (va_Qi (S := S) post (fun u t => va_P G.1 classes (Lu u) t.heap) (sy_A L)) mc ms (sy_A L)) (hZ : ∀ H, sys_P G g c H → Z H) (ids : List sid) (hn : ids.Nodup) (e : ids.map (sy_cell G.2 g c) = L.map some)
    (hu : ∀ r u, post r u → r = a ∧ ids.map (sy_cell G.2 g c') = (Lu u).map some) (ho : ∀ i, i ∉ ids → sy_cell G.2 g c' i = sy_cell G.2 g c i) :
    Met l y ws rm (va_Pc av (sy_KP G (sy_Sp G g c))) (va_Qi (S := cs) (fun r u => r = a ∧ u = c') (fun u t => sys_P G g u t.heap) (sys_A G g c)) mc ms (sys_A G g c) := by
  refine sy_mono hM (fun _ s hp => ⟨hp.1, ⟨ss_sub hp.2.1.1 ids e, ss_subD hp.2.1.2 ids hn e, hZ _ hp.2.1.1⟩, hp.2.2⟩) (fun _ s o t hp hq => ?_) (fun q h => ss_A e h)
  obtain ⟨⟨r, u, h1, h2, h3⟩, h4, h5⟩ := hq
  obtain ⟨hr, e'⟩ := hu r u h2
  exact ⟨⟨r, c', h1, ⟨hr, rfl⟩, ss_set hp.2.1.1 hp.2.1.2 ids e e' ho h5 h3⟩, h4, fun q h6 h7 => h5 q h6 (fun h8 => h7 (ss_A e h8))⟩
theorem sm_r {P : Heap → Prop} {post : Int32 → Prop} {a : Int32} (hM : Met l y ws rm (va_Pc av (sy_KP G P)) (vp_Si post) mc ms (fun _ => False)) (hP : ∀ H, sys_P G g c H → P H) (ha : ∀ r, post r → r = a) :
    Met l y ws rm (va_Pc av (sy_KP G (sy_Sp G g c))) (va_Qi (S := cs) (fun r u => r = a ∧ u = c) (fun u t => sys_P G g u t.heap) (sys_A G g c)) mc ms (sys_A G g c) := by
  refine sy_mono hM (fun _ s hp => ⟨hp.1, hP _ hp.2.1.1, hp.2.2⟩) (fun _ s o t hp hq => ?_) (fun q h => h.elim)
  obtain ⟨r, h1, h2, h3⟩ := hq
  refine ⟨⟨r, c, h1, ⟨ha r h2, rfl⟩, ?_⟩, ?_, fun q _ _ => by rw [h3]⟩
  · show sys_P G g c t.heap
    rw [h3]; exact hp.2.1.1
  · rw [h3]; exact Nat.le_refl _
theorem sys_x {H : Heap} (h : sys_P G g c H) : va_P G.1 classes (xw G.2 g c.nd c.ns c.nb) H := ss_sub h [sx 0, sx 1, sx 2] rfl
theorem sys_t {H : Heap} (h : sys_P G g c H) : va_P G.1 classes (tw G.2 (g 3) (fun k => g (4 + k)) c.nT c.fI c.fL) H := ss_sub h [sx 3, sx 4, sx 5, sx 6, sx 7, sx 8, sx 9, sx 10] rfl
theorem sys_c {H : Heap} (h : sys_P G g c H) : va_P G.1 classes (cw G.2 (g 11) (fun k => g (12 + k)) c.nC c.gI c.gL) H := ss_sub h [sx 11, sx 12, sx 13, sx 14, sx 15, sx 16] rfl
theorem sys_d {H : Heap} (h : sys_P G g c H) (d : Nat) (hd : d < c.nd) : va_P G.1 classes (dw G.2 g c.dl c.df c.dm c.dk d) H := ss_sub h [sd d 0, sd d 1, sd d 2, sd d 3] (by simp only [List.map_cons, List.map_nil, ce_d hd]; rfl)
theorem sys_s {H : Heap} (h : sys_P G g c H) (j : Nat) (hj : j < c.ns) : va_P G.1 classes (sw g c.so c.sh c.sv j) H := ss_sub h [ss j 0, ss j 1, ss j 2] (by simp only [List.map_cons, List.map_nil, ce_s hj]; rfl)
end SM
section SE
variable {g : Nat → Nat} {c : cs} {ca : Nat → ClassId}
theorem ce_sz {z : Nat} {o : Int32} {h v : Nat → Int64} (hz : z < c.ns) (k : Nat) : sy_cell ca g (c.z z o h v) (ss z k) = (sq (g (40 + 3 * z)) (g (41 + 3 * z)) (g (42 + 3 * z)) o h v)[k]? := by
  rw [ce_s (show z < (c.z z o h v).ns from hz), cl_s_z]
theorem ce_szn {z j : Nat} {o : Int32} {h v : Nat → Int64} (hj : j < c.ns) (e : j ≠ z) (k : Nat) : sy_cell ca g (c.z z o h v) (ss j k) = (cl_s g c j)[k]? := by
  rw [ce_s (show j < (c.z z o h v).ns from hj), cl_s_n e]
theorem ce_szb {z n : Nat} {o : Int32} {h v : Nat → Int64} (hz : z < c.ns) (k : Nat) : sy_cell ca g ((c.z z o h v).b n) (ss z k) = (sq (g (40 + 3 * z)) (g (41 + 3 * z)) (g (42 + 3 * z)) o h v)[k]? := ce_sz (ca := ca) hz k
theorem ce_szc {z : Nat} {o : Int32} {h v : Nat → Int64} {p : tl_S} (hz : z < c.ns) (k : Nat) : sy_cell ca g ((c.z z o h v).co p) (ss z k) = (sq (g (40 + 3 * z)) (g (41 + 3 * z)) (g (42 + 3 * z)) o h v)[k]? := ce_sz (ca := ca) hz k
theorem ce_dzz {z l m : Nat} {f : Int64} {kf : Nat → Nat → Int64} (hz : z < c.nd) (k : Nat) : sy_cell ca g (c.d z l f m kf) (sd z k) = (dq ca (g (20 + 4 * z)) (g (21 + 4 * z)) (fun k => g (22 + 4 * z + k)) l f m kf)[k]? := by
  rw [ce_d (show z < (c.d z l f m kf).nd from hz), cl_d_z]
theorem ce_dt {z : Nat} {p : tl_S} (hz : z < c.nd) (k : Nat) : sy_cell ca g (c.t p) (sd z k) = (cl_d ca g c z)[k]? := ce_d (c := c) hz k
theorem ce_b {n : Nat} {ids : List sid} (h0 : sx 0 ∈ ids) (i : sid) (hn : i ∉ ids) : sy_cell ca g (c.b n) i = sy_cell ca g c i := by
  rcases i with k | ⟨d, k⟩ | ⟨j, k⟩
  · refine ce_xk (ids := ids) ?_ k hn
    refine ss_17 (Or.inl h0) ?_ ?_ ?_ ?_ ?_ ?_ ?_ ?_ ?_ ?_ ?_ ?_ ?_ ?_ ?_ ?_ <;> exact Or.inr rfl
  · rfl
  · rfl
theorem ce_t {p : tl_S} {ids : List sid} (h : ∀ k, 3 ≤ k → k < 11 → sx k ∈ ids) (i : sid) (hn : i ∉ ids) : sy_cell ca g (c.t p) i = sy_cell ca g c i := by
  rcases i with k | ⟨d, k⟩ | ⟨j, k⟩
  · refine ce_xk (ids := ids) ?_ k hn
    refine ss_17 ?_ ?_ ?_ ?_ ?_ ?_ ?_ ?_ ?_ ?_ ?_ ?_ ?_ ?_ ?_ ?_ ?_ <;> first | exact Or.inr rfl | exact Or.inl (h _ (by omega) (by omega))
  · rfl
  · rfl
theorem ce_co {p : tl_S} {ids : List sid} (h : ∀ k, 11 ≤ k → k < 17 → sx k ∈ ids) (i : sid) (hn : i ∉ ids) : sy_cell ca g (c.co p) i = sy_cell ca g c i := by
  rcases i with k | ⟨d, k⟩ | ⟨j, k⟩
  · refine ce_xk (ids := ids) ?_ k hn
    refine ss_17 ?_ ?_ ?_ ?_ ?_ ?_ ?_ ?_ ?_ ?_ ?_ ?_ ?_ ?_ ?_ ?_ ?_ <;> first | exact Or.inr rfl | exact Or.inl (h _ (by omega) (by omega))
  · rfl
  · rfl
end SE
abbrev i_xt : List sid := [sx 0, sx 1, sx 2, sx 3, sx 4, sx 5, sx 6, sx 7, sx 8, sx 9, sx 10]
def cs_b (c : cs) : Prop := c.nd ≤ 4 ∧ c.ns ≤ 6 ∧ c.nT ≤ 60 ∧ c.nC ≤ 20 ∧ (∀ d, d < c.nd → c.dl d ≤ 99 ∧ c.dm d ≤ 10) ∧ c.nb < 2147483647
theorem cs_bR {c : cs} {sc : Nat → Nat} {mI : Nat → Nat → Int32} {mL : Nat → Nat → Int64} {mZ : Nat → Nat → Bool} (R : Rel c sc mI mL mZ) (h : c.nb < 2147483647) : cs_b c := ⟨R.b0, R.b3, R.b1, R.b2, fun d hd => ⟨(R.dv d hd).lb, (R.dv d hd).mb⟩, h⟩
