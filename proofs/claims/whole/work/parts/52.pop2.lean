theorem pp_d2 {a b : Nat} {t : List Nat} (ha : a < 256) (hb : b < 256) : pp_v (a :: b :: t) / 2 ^ 16 = pp_v t := by
  simp only [pp_v]
  omega
theorem pp_d4 {a b c d : Nat} {t : List Nat} (ha : a < 256) (hb : b < 256) (hc : c < 256) (hd : d < 256) : pp_v (a :: b :: c :: d :: t) / 2 ^ 32 = pp_v t := by
  simp only [pp_v]
  omega
theorem pp_x3 {x : Int64} {a b c d e f g h : Nat} (hs : ∀ z ∈ [a, b, c, d, e, f, g, h], z ≤ 68 ∧ z % 16 ≤ 4 ∧ z / 16 ≤ 4) (hx : pq x = pp_v [a, b, c, d, e, f, g, h]) : pq (lb_3 x) = pp_v ([a, b, c, d, e, f, g, h].map fun a => a % 16 + a / 16) := by
  have h1 := (pp_a3 [a, b, c, d, e, f, g, h] (fun z hz => ⟨by have := (hs z hz).1; omega, (hs z hz).2⟩)).1
  have q0 := (hs a (by simp)).1
  have q1 := (hs b (by simp)).1
  have q2 := (hs c (by simp)).1
  have q3 := (hs d (by simp)).1
  have q4 := (hs e (by simp)).1
  have q5 := (hs f (by simp)).1
  have q6 := (hs g (by simp)).1
  have q7 := (hs h (by simp)).1
  unfold lb_3
  rw [pq_and, pq_add, pq_shr, pp_k4, pp_c3, hx, Nat.mod_eq_of_lt (a := pp_v [a, b, c, d, e, f, g, h] + pp_v [a, b, c, d, e, f, g, h] / 2 ^ 4)]
  · exact h1
  · simp only [pp_v]
    omega
theorem pp_x4 {x : Int64} {a b c d e f g h : Nat} (ha : a ≤ 8) (hb : b ≤ 8) (hc : c ≤ 8) (hd : d ≤ 8) (he : e ≤ 8) (hf : f ≤ 8) (hg : g ≤ 8) (hh : h ≤ 8) (hx : pq x = pp_v [a, b, c, d, e, f, g, h]) : pq (lb_6 (lb_5 (lb_4 x))) % 128 = a + b + c + d + e + f + g + h := by
  have e4 : pq (lb_4 x) = pp_v [a + b, b + c, c + d, d + e, e + f, f + g, g + h, h] := by
    unfold lb_4
    rw [pq_add, pq_shr, pp_k8, hx]
    simp only [pp_v]
    omega
  have e5 : pq (lb_5 (lb_4 x)) = pp_v [a + b + c + d, b + c + d + e, c + d + e + f, d + e + f + g, e + f + g + h, f + g + h, g + h, h] := by
    unfold lb_5
    rw [pq_add, pq_shr, pp_k16, e4, pp_d2 (by omega) (by omega)]
    simp only [pp_v]
    rw [Nat.mod_eq_of_lt (by omega)]
    omega
  have e6 : pq (lb_6 (lb_5 (lb_4 x))) = pp_v [a + b + c + d + e + f + g + h, b + c + d + e + f + g + h, c + d + e + f + g + h, d + e + f + g + h, e + f + g + h, f + g + h, g + h, h] := by
    unfold lb_6
    rw [pq_add, pq_shr, pp_k32, e5, pp_d4 (by omega) (by omega) (by omega) (by omega)]
    simp only [pp_v]
    rw [Nat.mod_eq_of_lt (by omega)]
    omega
  rw [e6]
  simp only [pp_v]
  omega
theorem pq_i (y : Int64) : y.toInt32.toBitVec.toNat = pq y % 2 ^ 32 := by
  show (y.toBitVec.signExtend 32).toNat = _
  rw [BitVec.signExtend_eq_setWidth_of_le _ (by decide), BitVec.toNat_setWidth]
  rfl
theorem pp_fin (x : Int64) : lb_pc x = nI (((pp_by (pq x)).map pp_g).sum) := by
  have hx := (pp_of (pq_lt x)).symm
  obtain ⟨a, ea⟩ : ∃ z, z = pq x % 256 := ⟨_, rfl⟩
  obtain ⟨b, eb⟩ : ∃ z, z = pq x / 256 % 256 := ⟨_, rfl⟩
  obtain ⟨c, ec⟩ : ∃ z, z = pq x / 65536 % 256 := ⟨_, rfl⟩
  obtain ⟨d, ed⟩ : ∃ z, z = pq x / 16777216 % 256 := ⟨_, rfl⟩
  obtain ⟨e, ee⟩ : ∃ z, z = pq x / 4294967296 % 256 := ⟨_, rfl⟩
  obtain ⟨f, ef⟩ : ∃ z, z = pq x / 1099511627776 % 256 := ⟨_, rfl⟩
  obtain ⟨g, eg⟩ : ∃ z, z = pq x / 281474976710656 % 256 := ⟨_, rfl⟩
  obtain ⟨h, eh⟩ : ∃ z, z = pq x / 72057594037927936 % 256 := ⟨_, rfl⟩
  have el : pp_by (pq x) = [a, b, c, d, e, f, g, h] := by rw [ea, eb, ec, ed, ee, ef, eg, eh]; rfl
  rw [el] at hx ⊢
  have la : a < 256 := by omega
  have lb : b < 256 := by omega
  have lc : c < 256 := by omega
  have ld : d < 256 := by omega
  have le : e < 256 := by omega
  have lf : f < 256 := by omega
  have lg : g < 256 := by omega
  have lh : h < 256 := by omega
  have h1 := pp_x1 la lb lc ld le lf lg lh hx
  have h2 := pp_x2 (pp_b1 a la) (pp_b1 b lb) (pp_b1 c lc) (pp_b1 d ld) (pp_b1 e le) (pp_b1 f lf) (pp_b1 g lg) (pp_b1 h lh) h1 (by
    intro z hz
    simp only [List.mem_cons, List.not_mem_nil, or_false] at hz
    rcases hz with rfl | rfl | rfl | rfl | rfl | rfl | rfl | rfl <;> exact pp_b2 _ (by assumption))
  have h3 := pp_x3 (x := lb_2 (lb_1 x)) (by
    intro z hz
    simp only [List.mem_cons, List.not_mem_nil, or_false] at hz
    rcases hz with rfl | rfl | rfl | rfl | rfl | rfl | rfl | rfl <;> exact ⟨pp_b2 _ (by assumption), pp_l2 _ (by assumption)⟩) h2
  have h4 := pp_x4 (x := lb_3 (lb_2 (lb_1 x))) (pp_b3 a la) (pp_b3 b lb) (pp_b3 c lc) (pp_b3 d ld) (pp_b3 e le) (pp_b3 f lf) (pp_b3 g lg) (pp_b3 h lh) h3
  unfold lb_pc
  rw [pk_and _ 7 (by decide), pq_i]
  have h5 : pq (lb_6 (lb_5 (lb_4 (lb_3 (lb_2 (lb_1 x)))))) % 2 ^ 32 % 2 ^ 7 = pq (lb_6 (lb_5 (lb_4 (lb_3 (lb_2 (lb_1 x)))))) % 128 := by omega
  rw [h5, h4]
  simp only [List.map_cons, List.map_nil, List.sum_cons, List.sum_nil]
  congr 1
  omega
