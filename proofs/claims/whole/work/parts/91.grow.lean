section SG
variable {G : sy_G} {g g' : Nat → Nat} {c c' : cs} {H H1 : Heap} {A : Nat → Prop}
theorem ss_set2 (hP : sys_P G g c H) (hD : sys_D A G g c) (ids nw : List sid) {L L' : va_W} (e : ids.map (sy_cell G.2 g c) = L.map some) (e' : (ids ++ nw).map (sy_cell G.2 g' c') = L'.map some) (ho : ∀ i, i ∉ ids ++ nw → sy_cell G.2 g' c' i = sy_cell G.2 g c i)
    (hk : ∀ q : Nat, q < H.size → ¬ va_A L H.size q → H1[q]? = H[q]?) (hP' : va_P G.1 classes L' H1) : sys_P G g' c' H1 := by
  intro i q hi
  by_cases hm : i ∈ ids ++ nw
  · obtain ⟨k, hk2⟩ := List.getElem?_of_mem hm
    obtain ⟨q2, h1, h2⟩ := ss_at2 e' hk2
    rw [hi] at h2
    cases h2
    exact hP' k q h1
  · rw [ho i hm] at hi
    have ha := hP i q hi
    refine ha.kept (hk q.1 ha.lt ?_)
    rintro (⟨k, e9, h9⟩ | h9)
    · obtain ⟨i2, h1, h2⟩ := ss_at e h9
      have := hD.1 i i2 q (q.1, e9) hi h2 rfl
      subst this
      exact hm (List.mem_append_left _ (List.mem_of_getElem? h1))
    · have := ha.lt
      omega
theorem ss_growD (hP : sys_P G g c H) (hD : sys_D A G g c) (ids nw : List sid) {L L' : va_W} (e : ids.map (sy_cell G.2 g c) = L.map some) (e' : (ids ++ nw).map (sy_cell G.2 g' c') = L'.map some) (ho : ∀ i, i ∉ ids ++ nw → sy_cell G.2 g' c' i = sy_cell G.2 g c i) (hD' : va_D (va_A L H.size) L') : sys_D (fun q => A q ∨ H.size ≤ q) G g' c' := by
  have K : ∀ i, i ∈ ids ++ nw → ∀ q, sy_cell G.2 g' c' i = some q → ∃ k : Nat, (ids ++ nw)[k]? = some i ∧ L'[k]? = some q := by
    intro i hm q hi
    obtain ⟨k, hk2⟩ := List.getElem?_of_mem hm
    obtain ⟨q2, h1, h2⟩ := ss_at2 e' hk2
    rw [hi] at h2
    cases h2
    exact ⟨k, hk2, h1⟩
  have M : ∀ i j p q, i ∈ ids ++ nw → j ∉ ids ++ nw → sy_cell G.2 g' c' i = some p → sy_cell G.2 g' c' j = some q → p.1 = q.1 → False := by
    intro i j p q hi hj hp hq hpq
    rw [ho j hj] at hq
    have hl := (hP j q hq).lt
    obtain ⟨k, h1, h2⟩ := K i hi p hp
    rcases hD'.2 k p h2 with ⟨k2, e9, h9⟩ | h9
    · obtain ⟨i2, h3, h4⟩ := ss_at e h9
      have := hD.1 j i2 q (p.1, e9) hq h4 hpq.symm
      subst this
      exact hj (List.mem_append_left _ (List.mem_of_getElem? h3))
    · omega
  refine ⟨fun i j p q hi hj hpq => ?_, fun i q hi => ?_⟩
  · by_cases mi : i ∈ ids ++ nw
    · by_cases mj : j ∈ ids ++ nw
      · obtain ⟨k, h1, h2⟩ := K i mi p hi
        obtain ⟨k2, h3, h4⟩ := K j mj q hj
        have := hD'.1 k k2 p q h2 h4 hpq
        subst this
        rw [h1] at h3
        exact Option.some.inj h3
      · exact (M i j p q mi mj hi hj hpq).elim
    · by_cases mj : j ∈ ids ++ nw
      · exact (M j i q p mj mi hj hi hpq.symm).elim
      · rw [ho i mi] at hi
        rw [ho j mj] at hj
        exact hD.1 i j p q hi hj hpq
  · by_cases mi : i ∈ ids ++ nw
    · obtain ⟨k, h1, h2⟩ := K i mi q hi
      rcases hD'.2 k q h2 with ⟨k2, e9, h9⟩ | h9
      · obtain ⟨i2, h3, h4⟩ := ss_at e h9
        exact Or.inl (hD.2 i2 (q.1, e9) h4)
      · exact Or.inr h9
    · rw [ho i mi] at hi
      exact Or.inl (hD.2 i q hi)
theorem sm_a {l : Launch} {y : MethodName} {ws : List Cond} {rm : Room} {av : List Value} {mc ms N9 : Nat} {L : va_W} {post : Int32 → (Nat → Nat) → Prop} {Lu : (Nat → Nat) → va_W} {a : Int32} (hM : Met l y ws rm (va_Pc av (sy_KP G (fun H => va_P G.1 classes L H ∧ va_D (fun _ => True) L ∧ H.size = N9))) (va_Qi (S := Nat → Nat) post (fun u t => va_P G.1 classes (Lu u) t.heap ∧ va_D (va_A L N9) (Lu u)) (va_A L N9)) mc ms (va_A L N9)) (ids nw : List sid) (hn : ids.Nodup) (e : ids.map (sy_cell G.2 g c) = L.map some) (gu : (Nat → Nat) → Nat → Nat)
    (hu : ∀ r u, post r u → r = a ∧ gu u 0 = g 0 ∧ (ids ++ nw).map (sy_cell G.2 (gu u) c') = (Lu u).map some ∧ ∀ i, i ∉ ids ++ nw → sy_cell G.2 (gu u) c' i = sy_cell G.2 g c i) :
    Met l y ws rm (va_Pc av (sy_KP G (fun H => sy_Sp G g c H ∧ H.size = N9))) (va_Qi (S := Nat → Nat) (fun r u => r = a ∧ u 0 = g 0) (fun u t => sys_P G u c' t.heap ∧ sys_D (fun q => sys_A G g c q ∨ N9 ≤ q) G u c') (fun q => sys_A G g c q ∨ N9 ≤ q)) mc ms (fun q => sys_A G g c q ∨ N9 ≤ q) := by
  have hA : ∀ q, va_A L N9 q → sys_A G g c q ∨ N9 ≤ q := fun q h => h.imp (fun h => ss_A e h) id
  refine sy_mono hM (fun _ s hp => ⟨hp.1, ⟨ss_sub hp.2.1.1.1 ids e, ss_subD hp.2.1.1.2 ids hn e, hp.2.1.2⟩, hp.2.2⟩) (fun _ s o t hp hq => ?_) hA
  obtain ⟨⟨r, u, h1, h2, h3, h3D⟩, h4, h5⟩ := hq
  obtain ⟨hr, h0, e', ho⟩ := hu r u h2
  have hN : s.heap.size = N9 := hp.2.1.2
  subst hN
  exact ⟨⟨r, gu u, h1, ⟨hr, h0⟩, ss_set2 hp.2.1.1.1 hp.2.1.1.2 ids nw e e' ho h5 h3, ss_growD hp.2.1.1.1 (ss_selfD hp.2.1.1.2) ids nw e e' ho h3D⟩, h4, fun q h6 h7 => h5 q h6 (fun h8 => h7 (hA q h8))⟩
end SG
def gd (g : Nat → Nat) (n : Nat) (u : Nat → Nat) : Nat → Nat := fun i => if 20 + 4 * n ≤ i ∧ i < 24 + 4 * n then u (i - (20 + 4 * n)) else g i
theorem gd_o {g : Nat → Nat} {n : Nat} {u : Nat → Nat} {i : Nat} (h : i < 20 + 4 * n ∨ 24 + 4 * n ≤ i) : gd g n u i = g i := if_neg (by omega)
theorem gd_n {g : Nat → Nat} {n : Nat} {u : Nat → Nat} {i k : Nat} (h : i = 20 + 4 * n + k) (hk : k < 4) : gd g n u i = u k := by
  rw [gd, if_pos (by omega), show i - (20 + 4 * n) = k by omega]
def gs (g : Nat → Nat) (n : Nat) (u : Nat → Nat) : Nat → Nat := fun i => if 40 + 3 * n ≤ i ∧ i < 43 + 3 * n then u (i - (40 + 3 * n)) else g i
theorem gs_o {g : Nat → Nat} {n : Nat} {u : Nat → Nat} {i : Nat} (h : i < 40 + 3 * n ∨ 43 + 3 * n ≤ i) : gs g n u i = g i := if_neg (by omega)
theorem gs_n {g : Nat → Nat} {n : Nat} {u : Nat → Nat} {i k : Nat} (h : i = 40 + 3 * n + k) (hk : k < 3) : gs g n u i = u k := by
  rw [gs, if_pos (by omega), show i - (40 + 3 * n) = k by omega]
section GG
variable {g g' : Nat → Nat} {c : cs} {ca : Nat → ClassId}
theorem cr_g (h : ∀ k, 3 ≤ k → k < 17 → g' k = g k) : tw ca (g' 3) (fun k => g' (4 + k)) c.nT c.fI c.fL ++ cw ca (g' 11) (fun k => g' (12 + k)) c.nC c.gI c.gL = tw ca (g 3) (fun k => g (4 + k)) c.nT c.fI c.fL ++ cw ca (g 11) (fun k => g (12 + k)) c.nC c.gI c.gL := by
  have h3 := h 3 (by omega) (by omega)
  have h4 := h 4 (by omega) (by omega)
  have h5 := h 5 (by omega) (by omega)
  have h6 := h 6 (by omega) (by omega)
  have h7 := h 7 (by omega) (by omega)
  have h8 := h 8 (by omega) (by omega)
  have h9 := h 9 (by omega) (by omega)
  have h10 := h 10 (by omega) (by omega)
  have h11 := h 11 (by omega) (by omega)
  have h12 := h 12 (by omega) (by omega)
  have h13 := h 13 (by omega) (by omega)
  have h14 := h 14 (by omega) (by omega)
  have h15 := h 15 (by omega) (by omega)
  have h16 := h 16 (by omega) (by omega)
  simp only [tw, cw, Nat.reduceAdd, Nat.add_zero, h3, h4, h5, h6, h7, h8, h9, h10, h11, h12, h13, h14, h15, h16]
theorem cd_g {d : Nat} (h0 : g' (20 + 4 * d) = g (20 + 4 * d)) (h1 : g' (21 + 4 * d) = g (21 + 4 * d)) (h2 : g' (22 + 4 * d + 0) = g (22 + 4 * d + 0)) (h3 : g' (22 + 4 * d + 1) = g (22 + 4 * d + 1)) : cl_d ca g' c d = cl_d ca g c d := by
  show (g' (20 + 4 * d), (Sum.inr (1, [Value.ref (g' (21 + 4 * d)), .int (nI (c.dl d)), .long (c.df d)]) : va_E)) :: kw ca (g' (21 + 4 * d)) (fun k => g' (22 + 4 * d + k)) (c.dm d) (c.dk d) = _
  have e : kw ca (g' (21 + 4 * d)) (fun k => g' (22 + 4 * d + k)) (c.dm d) (c.dk d) = kw ca (g (21 + 4 * d)) (fun k => g (22 + 4 * d + k)) (c.dm d) (c.dk d) := by
    show [(g' (21 + 4 * d), (Sum.inr (2, [Value.ref (g' (22 + 4 * d + 0)), .ref (g' (22 + 4 * d + 1)), .int (nI (c.dm d))]) : va_E)), (g' (22 + 4 * d + 0), _), (g' (22 + 4 * d + 1), _)] = _
    rw [h1, h2, h3]; rfl
  rw [e, h0, h1]; rfl
theorem cs_g {j : Nat} (h0 : g' (40 + 3 * j) = g (40 + 3 * j)) (h1 : g' (41 + 3 * j) = g (41 + 3 * j)) (h2 : g' (42 + 3 * j) = g (42 + 3 * j)) : cl_s g' c j = cl_s g c j := by
  show sq (g' (40 + 3 * j)) (g' (41 + 3 * j)) (g' (42 + 3 * j)) _ _ _ = _
  rw [h0, h1, h2]; rfl
theorem cx_r {k : Nat} (hk : 3 ≤ k) : sy_cell ca g c (sx k) = (tw ca (g 3) (fun k => g (4 + k)) c.nT c.fI c.fL ++ cw ca (g 11) (fun k => g (12 + k)) c.nC c.gI c.gL)[k - 3]? := by
  show (xw ca g c.nd c.ns c.nb ++ _)[k]? = _
  rw [List.getElem?_append_right (show (xw ca g c.nd c.ns c.nb).length ≤ k from hk)]; rfl
theorem cx_0 (h0 : g' 0 = g 0) (h1 : g' 1 = g 1) (h2 : g' 2 = g 2) (h3 : g' 3 = g 3) (h11 : g' 11 = g 11) : sy_cell ca g' c (sx 0) = some (g 0, .inr (0, [.ref (g 1), .ref (g 2), .ref (g 3), .ref (g 11), .int (nI c.nd), .int (nI c.ns), .int (nI c.nb)])) := by
  show some (g' 0, (Sum.inr (0, [Value.ref (g' 1), .ref (g' 2), .ref (g' 3), .ref (g' 11), .int (nI c.nd), .int (nI c.ns), .int (nI c.nb)]) : va_E)) = _
  rw [h0, h1, h2, h3, h11]
theorem cx_1 {f : Nat → Option Nat} (h1 : g' 1 = g 1) (hf : (fun i => if i < c.nd then some (g' (20 + 4 * i)) else none) = f) : sy_cell ca g' c (sx 1) = some (g 1, .inl (ca 3, 4, .inr (.inr (.inr (.inr f))))) := by
  show some (g' 1, (Sum.inl (ca 3, 4, .inr (.inr (.inr (.inr (fun i => if i < c.nd then some (g' (20 + 4 * i)) else none))))) : va_E)) = _
  rw [h1, hf]
theorem cx_2 {f : Nat → Option Nat} (h2 : g' 2 = g 2) (hf : (fun i => if i < c.ns then some (g' (40 + 3 * i)) else none) = f) : sy_cell ca g' c (sx 2) = some (g 2, .inl (ca 4, 6, .inr (.inr (.inr (.inr f))))) := by
  show some (g' 2, (Sum.inl (ca 4, 6, .inr (.inr (.inr (.inr (fun i => if i < c.ns then some (g' (40 + 3 * i)) else none))))) : va_E)) = _
  rw [h2, hf]
end GG
abbrev cs.ad (c : cs) : cs := (c.d c.nd 0 0 0 (fun _ _ => 0)).mored (c.nd + 1)
abbrev cs.as (c : cs) (x : Int64) : cs := (c.z c.ns (-1) (va_up (fun _ => 0) 0 x) (fun _ => 0)).mores (c.ns + 1)
section GD
variable {g : Nat → Nat} {c : cs} {ca : Nat → ClassId} {u : Nat → Nat}
theorem gd_e (hq : c.nd < 4) : ([sx 0, sx 1, sx 2] ++ [sd c.nd 0, sd c.nd 1, sd c.nd 2, sd c.nd 3]).map (sy_cell ca (gd g c.nd u) c.ad) = (([(g 0, .inr (0, [.ref (g 1), .ref (g 2), .ref (g 3), .ref (g 11), .int (nI (c.nd + 1)), .int (nI c.ns), .int (nI c.nb)])), (g 1, .inl (ca 3, 4, .inr (.inr (.inr (.inr (va_up (fun i => if i < c.nd then some (g (20 + 4 * i)) else none) c.nd (some (u 0)))))))), (g 2, .inl (ca 4, 6, .inr (.inr (.inr (.inr (fun i => if i < c.ns then some (g (40 + 3 * i)) else none))))))] ++ dq ca (u 0) (u 1) (fun k => u (2 + k)) 0 0 0 (fun _ _ => 0) : va_W).map some) := by
  have o : ∀ i, i < 20 + 4 * c.nd ∨ 24 + 4 * c.nd ≤ i → gd g c.nd u i = g i := fun i h => gd_o h
  have e0 : sy_cell ca (gd g c.nd u) c.ad (sx 0) = _ := cx_0 (c := c.ad) (o 0 (by omega)) (o 1 (by omega)) (o 2 (by omega)) (o 3 (by omega)) (o 11 (by omega))
  have e1 : sy_cell ca (gd g c.nd u) c.ad (sx 1) = _ := cx_1 (c := c.ad) (f := va_up (fun i => if i < c.nd then some (g (20 + 4 * i)) else none) c.nd (some (u 0))) (o 1 (by omega)) (by
    funext i
    show (if i < c.nd + 1 then some (gd g c.nd u (20 + 4 * i)) else none) = _
    by_cases h : i = c.nd
    · subst h; rw [va_up_s, if_pos (by omega), gd_n (i := 20 + 4 * c.nd) (k := 0) (by omega) (by omega)]
    · rw [va_up_n h]
      by_cases h2 : i < c.nd
      · rw [if_pos (by omega), if_pos h2, o _ (by omega)]
      · rw [if_neg (by omega), if_neg h2])
  have e2 : sy_cell ca (gd g c.nd u) c.ad (sx 2) = _ := cx_2 (c := c.ad) (f := fun i => if i < c.ns then some (g (40 + 3 * i)) else none) (o 2 (by omega)) (by
    funext i
    show (if i < c.ns then some (gd g c.nd u (40 + 3 * i)) else none) = _
    by_cases h : i < c.ns
    · rw [if_pos h, if_pos h, o _ (by omega)]
    · rw [if_neg h, if_neg h])
  have e3 : cl_d ca (gd g c.nd u) c.ad c.nd = dq ca (u 0) (u 1) (fun k => u (2 + k)) 0 0 0 (fun _ _ => 0) := by
    show dq ca (gd g c.nd u (20 + 4 * c.nd)) (gd g c.nd u (21 + 4 * c.nd)) (fun k => gd g c.nd u (22 + 4 * c.nd + k)) (va_up c.dl c.nd 0 c.nd) (va_up c.df c.nd 0 c.nd) (va_up c.dm c.nd 0 c.nd) (va_up c.dk c.nd (fun _ _ => 0) c.nd) = _
    rw [va_up_s, va_up_s, va_up_s, va_up_s, gd_n (i := 20 + 4 * c.nd) (k := 0) (by omega) (by omega), gd_n (i := 21 + 4 * c.nd) (k := 1) (by omega) (by omega)]
    show (u 0, _) :: [(u 1, (Sum.inr (2, [Value.ref (gd g c.nd u (22 + 4 * c.nd + 0)), .ref (gd g c.nd u (22 + 4 * c.nd + 1)), _]) : va_E)), (gd g c.nd u (22 + 4 * c.nd + 0), _), (gd g c.nd u (22 + 4 * c.nd + 1), _)] = _
    rw [gd_n (i := 22 + 4 * c.nd + 0) (k := 2) (by omega) (by omega), gd_n (i := 22 + 4 * c.nd + 1) (k := 3) (by omega) (by omega)]
    rfl
  have e4 : ∀ k, sy_cell ca (gd g c.nd u) c.ad (sd c.nd k) = (dq ca (u 0) (u 1) (fun k => u (2 + k)) 0 0 0 (fun _ _ => 0))[k]? := fun k => by
    rw [ce_d (show c.nd < c.ad.nd from Nat.lt_succ_self _), e3]
  simp only [List.cons_append, List.nil_append, List.map_cons, List.map_nil, e0, e1, e2, e4]
  rfl
theorem gd_oo (hq : c.nd < 4) (i : sid) (hn : i ∉ [sx 0, sx 1, sx 2] ++ [sd c.nd 0, sd c.nd 1, sd c.nd 2, sd c.nd 3]) : sy_cell ca (gd g c.nd u) c.ad i = sy_cell ca g c i := by
  have o : ∀ i, i < 20 + 4 * c.nd ∨ 24 + 4 * c.nd ≤ i → gd g c.nd u i = g i := fun i h => gd_o h
  rcases i with k | ⟨d, k⟩ | ⟨j, k⟩
  · have hk : 3 ≤ k := Nat.le_of_not_lt fun q => hn (by rcases (show k = 0 ∨ k = 1 ∨ k = 2 by omega) with e | e | e <;> subst e <;> simp [sx, sd])
    show sy_cell ca (gd g c.nd u) c.ad (sx k) = sy_cell ca g c (sx k)
    rw [cx_r hk, cx_r hk]
    exact congrArg (fun l : va_W => l[k - 3]?) (cr_g (c := c) (fun k _ h => o k (by omega)))
  · show (if d < c.nd + 1 then (cl_d ca (gd g c.nd u) c.ad d)[k]? else none) = (if d < c.nd then (cl_d ca g c d)[k]? else none)
    by_cases h : d < c.nd
    · rw [if_pos (by omega), if_pos h, show cl_d ca (gd g c.nd u) c.ad d = cl_d ca (gd g c.nd u) c d from cl_d_n (by omega), cd_g (o _ (by omega)) (o _ (by omega)) (o _ (by omega)) (o _ (by omega))]
    · by_cases e : d = c.nd
      · subst e
        have hk : 4 ≤ k := Nat.le_of_not_lt fun q => hn (by rcases (show k = 0 ∨ k = 1 ∨ k = 2 ∨ k = 3 by omega) with e | e | e | e <;> subst e <;> simp [sx, sd])
        rw [if_pos (by omega), if_neg h, List.getElem?_eq_none (show (cl_d ca (gd g c.nd u) c.ad c.nd).length ≤ k from hk)]
      · rw [if_neg (by omega), if_neg h]
  · show (if j < c.ns then (cl_s (gd g c.nd u) c.ad j)[k]? else none) = (if j < c.ns then (cl_s g c j)[k]? else none)
    by_cases h : j < c.ns
    · rw [if_pos h, if_pos h, show cl_s (gd g c.nd u) c.ad j = cl_s (gd g c.nd u) c j from rfl, cs_g (o _ (by omega)) (o _ (by omega)) (o _ (by omega))]
    · rw [if_neg h, if_neg h]
theorem gs_e {x : Int64} (hq : c.ns < 6) (hd : c.nd ≤ 4) : (i_xt ++ [ss c.ns 0, ss c.ns 1, ss c.ns 2]).map (sy_cell ca (gs g c.ns u) (c.as x)) = (([(g 0, .inr (0, [.ref (g 1), .ref (g 2), .ref (g 3), .ref (g 11), .int (nI c.nd), .int (nI (c.ns + 1)), .int (nI c.nb)])), (g 1, .inl (ca 3, 4, .inr (.inr (.inr (.inr (fun i => if i < c.nd then some (g (20 + 4 * i)) else none)))))), (g 2, .inl (ca 4, 6, .inr (.inr (.inr (.inr (va_up (fun i => if i < c.ns then some (g (40 + 3 * i)) else none) c.ns (some (u 0))))))))] ++ (tw ca (g 3) (fun k => g (4 + k)) c.nT c.fI c.fL ++ sq (u 0) (u 1) (u 2) (-1) (va_up (fun _ => 0) 0 x) (fun _ => 0)) : va_W).map some) := by
  have o : ∀ i, i < 40 + 3 * c.ns ∨ 43 + 3 * c.ns ≤ i → gs g c.ns u i = g i := fun i h => gs_o h
  have e0 : sy_cell ca (gs g c.ns u) (c.as x) (sx 0) = _ := cx_0 (c := c.as x) (o 0 (by omega)) (o 1 (by omega)) (o 2 (by omega)) (o 3 (by omega)) (o 11 (by omega))
  have e1 : sy_cell ca (gs g c.ns u) (c.as x) (sx 1) = _ := cx_1 (c := c.as x) (f := fun i => if i < c.nd then some (g (20 + 4 * i)) else none) (o 1 (by omega)) (by
    funext i
    show (if i < c.nd then some (gs g c.ns u (20 + 4 * i)) else none) = _
    by_cases h : i < c.nd
    · rw [if_pos h, if_pos h, o _ (by omega)]
    · rw [if_neg h, if_neg h])
  have e2 : sy_cell ca (gs g c.ns u) (c.as x) (sx 2) = _ := cx_2 (c := c.as x) (f := va_up (fun i => if i < c.ns then some (g (40 + 3 * i)) else none) c.ns (some (u 0))) (o 2 (by omega)) (by
    funext i
    show (if i < c.ns + 1 then some (gs g c.ns u (40 + 3 * i)) else none) = _
    by_cases h : i = c.ns
    · subst h; rw [va_up_s, if_pos (by omega), gs_n (i := 40 + 3 * c.ns) (k := 0) (by omega) (by omega)]
    · rw [va_up_n h]
      by_cases h2 : i < c.ns
      · rw [if_pos (by omega), if_pos h2, o _ (by omega)]
      · rw [if_neg (by omega), if_neg h2])
  have e3 : cl_s (gs g c.ns u) (c.as x) c.ns = sq (u 0) (u 1) (u 2) (-1) (va_up (fun _ => 0) 0 x) (fun _ => 0) := by
    show sq (gs g c.ns u (40 + 3 * c.ns)) (gs g c.ns u (41 + 3 * c.ns)) (gs g c.ns u (42 + 3 * c.ns)) (va_up c.so c.ns (-1) c.ns) (va_up c.sh c.ns (va_up (fun _ => 0) 0 x) c.ns) (va_up c.sv c.ns (fun _ => 0) c.ns) = _
    rw [va_up_s, va_up_s, va_up_s, gs_n (i := 40 + 3 * c.ns) (k := 0) (by omega) (by omega), gs_n (i := 41 + 3 * c.ns) (k := 1) (by omega) (by omega), gs_n (i := 42 + 3 * c.ns) (k := 2) (by omega) (by omega)]
  have e4 : ∀ k, sy_cell ca (gs g c.ns u) (c.as x) (ss c.ns k) = (sq (u 0) (u 1) (u 2) (-1) (va_up (fun _ => 0) 0 x) (fun _ => 0))[k]? := fun k => by
    rw [ce_s (show c.ns < (c.as x).ns from Nat.lt_succ_self _), e3]
  have e5 : ∀ k, 3 ≤ k → sy_cell ca (gs g c.ns u) (c.as x) (sx k) = (tw ca (g 3) (fun k => g (4 + k)) c.nT c.fI c.fL ++ cw ca (g 11) (fun k => g (12 + k)) c.nC c.gI c.gL)[k - 3]? := fun k hk => by
    rw [cx_r hk]
    exact congrArg (fun l : va_W => l[k - 3]?) (cr_g (c := c) (fun k _ h => o k (by omega)))
  simp only [i_xt, List.cons_append, List.nil_append, List.map_cons, List.map_nil, e0, e1, e2, e4, e5 3 (by omega), e5 4 (by omega), e5 5 (by omega), e5 6 (by omega), e5 7 (by omega), e5 8 (by omega), e5 9 (by omega), e5 10 (by omega)]
  rfl
theorem gs_oo {x : Int64} (hq : c.ns < 6) (hd : c.nd ≤ 4) (i : sid) (hn : i ∉ i_xt ++ [ss c.ns 0, ss c.ns 1, ss c.ns 2]) : sy_cell ca (gs g c.ns u) (c.as x) i = sy_cell ca g c i := by
  have o : ∀ i, i < 40 + 3 * c.ns ∨ 43 + 3 * c.ns ≤ i → gs g c.ns u i = g i := fun i h => gs_o h
  rcases i with k | ⟨d, k⟩ | ⟨j, k⟩
  · have hk : 3 ≤ k := Nat.le_of_not_lt fun q => hn (by rcases (show k = 0 ∨ k = 1 ∨ k = 2 by omega) with e | e | e <;> subst e <;> simp [i_xt, sx, ss])
    show sy_cell ca (gs g c.ns u) (c.as x) (sx k) = sy_cell ca g c (sx k)
    rw [cx_r hk, cx_r hk]
    exact congrArg (fun l : va_W => l[k - 3]?) (cr_g (c := c) (fun k _ h => o k (by omega)))
  · show (if d < c.nd then (cl_d ca (gs g c.ns u) (c.as x) d)[k]? else none) = (if d < c.nd then (cl_d ca g c d)[k]? else none)
    by_cases h : d < c.nd
    · rw [if_pos h, if_pos h, show cl_d ca (gs g c.ns u) (c.as x) d = cl_d ca (gs g c.ns u) c d from rfl, cd_g (o _ (by omega)) (o _ (by omega)) (o _ (by omega)) (o _ (by omega))]
    · rw [if_neg h, if_neg h]
  · show (if j < c.ns + 1 then (cl_s (gs g c.ns u) (c.as x) j)[k]? else none) = (if j < c.ns then (cl_s g c j)[k]? else none)
    by_cases h : j < c.ns
    · rw [if_pos (by omega), if_pos h, show cl_s (gs g c.ns u) (c.as x) j = cl_s (gs g c.ns u) c j from cl_s_n (by omega), cs_g (o _ (by omega)) (o _ (by omega)) (o _ (by omega))]
    · by_cases e : j = c.ns
      · subst e
        have hk : 3 ≤ k := Nat.le_of_not_lt fun q => hn (by rcases (show k = 0 ∨ k = 1 ∨ k = 2 by omega) with e | e | e <;> subst e <;> simp [i_xt, sx, ss])
        rw [if_pos (by omega), if_neg h, List.getElem?_eq_none (show (cl_s (gs g c.ns u) (c.as x) c.ns).length ≤ k from hk)]
      · rw [if_neg (by omega), if_neg h]
end GD
