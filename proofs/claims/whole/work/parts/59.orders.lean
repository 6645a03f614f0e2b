/-! ===== the mathematics: orders are given ===== -/
theorem res_rg (w : Int) {x y : Int} : 0 ≤ res w x y ∧ res w x y ≤ 9999 := by
  unfold res
  split
  · have := Int.emod_nonneg (x + y) (b := 10000) (by decide); have := Int.emod_lt_of_pos (x + y) (b := 10000) (by decide); omega
  · split
    · have := Int.emod_nonneg (x - y) (b := 10000) (by decide); have := Int.emod_lt_of_pos (x - y) (b := 10000) (by decide); omega
    · have := Int.emod_nonneg (x * y) (b := 10000) (by decide); have := Int.emod_lt_of_pos (x * y) (b := 10000) (by decide); omega
/-- what lies behind the last order counts for nothing -/
theorem slot_R {I : mIt} {b : Nat} {s t : Int → Int} (h : RR I b s) (ht : ∀ i : Int, 0 ≤ i → i < 111 + 7 * s 3 → t i = s i) : RR I b t := by
  obtain ⟨⟨hH, hN, hM, hO, hQ, hW, hV, eH, eN, eM, eO, eC, eD, hR⟩, hX, hz, hd, hsat⟩ := h
  have h7 := hH.1
  have h2 := hH.2.2.1
  have h3 := hH.2.2.2.1
  have gl : ∀ i : Int, (0 ≤ i ∧ i < 111) → t i = s i := fun i q => ht i q.1 (by omega)
  have go : ∀ k w : Int, k < s 3 → (0 ≤ k ∧ 0 ≤ w ∧ w < 7) → t (111 + 7 * k + w) = s (111 + 7 * k + w) := fun k w q1 q2 => ht _ (by omega) (by omega)
  have z0 := gl 0 (by omega)
  have z2 := gl 2 (by omega)
  have z3 := gl 3 (by omega)
  have z1 := gl 1 (by omega)
  have od : ∀ c, ordP t c ↔ ordP s c := by
    intro c
    unfold ordP
    rw [z3]
    constructor
    · rintro ⟨k, a, b, f⟩; exact ⟨k, a, b, by rw [← go k 1 b (by omega)]; exact f⟩
    · rintro ⟨k, a, b, f⟩; exact ⟨k, a, b, by rw [go k 1 b (by omega)]; exact f⟩
  have nd : ∀ c, need t c ↔ need s c := by
    intro c
    unfold need pinP
    rw [od c]
    have e1 : hadP t c ↔ hadP s c := by
      unfold hadP
      constructor
      · rintro ⟨k, a, b, f⟩; exact ⟨k, a, b, by rw [← gl _ (by omega)]; exact f⟩
      · rintro ⟨k, a, b, f⟩; exact ⟨k, a, b, by rw [gl _ (by omega)]; exact f⟩
    have e2 : mrkP t c ↔ mrkP s c := by
      unfold mrkP
      rw [z2]
      constructor
      · rintro ⟨m, a, b, k, d, e, f⟩; exact ⟨m, a, b, k, d, e, by rw [← gl _ (by omega)]; exact f⟩
      · rintro ⟨m, a, b, k, d, e, f⟩; exact ⟨m, a, b, k, d, e, by rw [gl _ (by omega)]; exact f⟩
    have e3 : redP t c ↔ redP s c := by
      unfold redP
      rw [z3]
      constructor
      · rintro ⟨k, a, b, f⟩; exact ⟨k, a, b, by rw [← go k 2 b (by omega), ← go k 3 b (by omega)]; exact f⟩
      · rintro ⟨k, a, b, f⟩; exact ⟨k, a, b, by rw [go k 2 b (by omega), go k 3 b (by omega)]; exact f⟩
    rw [e1, e2, e3]
  refine ⟨⟨?_, ?_, ?_, ?_, ?_, ?_, ?_, ?_, ?_, ?_, ?_, ?_, ?_, hR⟩, ?_, ?_, ?_, ?_⟩
  · unfold IvH at *; rw [z0, z1, z2, z3, gl 8 (by omega), gl 9 (by omega), gl 10 (by omega), gl 11 (by omega)]; exact hH
  · intro k a1 a2
    rw [z0, gl _ (by omega), gl _ (by omega)]; exact hN k a1 a2
  · intro m k a1 a2 a3 a4
    rw [z2] at a2
    rw [z0, gl _ (by omega), gl _ (by omega)]; exact hM m k a1 a2 a3 a4
  · intro k a1 a2
    rw [z3] at a2
    rw [z0, z2, go k 0 a2 (by omega), go k 1 a2 (by omega), go k 2 a2 (by omega), go k 3 a2 (by omega), go k 5 a2 (by omega)]
    exact hO k a1 a2
  · refine ⟨fun j k a1 a2 a3 => ?_, fun k j a1 a2 a3 => ?_, fun m i k a1 a2 a3 a4 a5 a6 a7 => ?_⟩
    · rw [z3] at a3
      rw [go j 5 (by omega) (by omega), go j 1 (by omega) (by omega), go k 5 a3 (by omega), go k 1 a3 (by omega)]
      exact hQ.1 j k a1 a2 a3
    · rw [z3] at a3
      rw [go k 2 (by omega) (by omega), go k 3 (by omega) (by omega), go j 1 a3 (by omega)]
      exact hQ.2.1 k j a1 a2 a3
    · rw [z3] at a6
      rw [z2] at a2
      rw [go k 5 a6 (by omega)] at a7
      rw [gl _ (by omega), go k 1 a6 (by omega)]
      exact hQ.2.2 m i k a1 a2 a3 a4 a5 a6 a7
  · intro c a1 a2
    rw [z0] at a2
    rw [gl _ (by omega), nd c]; exact hW c a1 a2
  · intro c a1 a2
    rw [gl _ (by omega)]; exact hV c a1 a2
  · unfold EqH at *
    rw [z0, z1, z2, gl 5 (by omega), gl 8 (by omega), gl 9 (by omega), gl 10 (by omega), gl 11 (by omega)]
    exact eH
  · intro k a1 a2
    rw [gl _ (by omega), gl _ (by omega)]; exact eN k a1 a2
  · intro m a1 a2 k a3 a4
    rw [z2] at a2
    rw [gl _ (by omega), gl _ (by omega)]; exact eM m a1 a2 k a3 a4
  · intro k a1 a2
    rw [z3] at a2
    rw [go k 0 a2 (by omega), go k 1 a2 (by omega), go k 2 a2 (by omega), go k 3 a2 (by omega), go k 5 a2 (by omega)]
    exact eO k a1 a2
  · intro c a1 a2 a3
    rw [z0] at a2
    have r := eC c a1 a2 ((nd c).mp a3)
    unfold chR at *
    rw [gl (28 + 5 * c + 4) (by omega), gl (28 + 5 * c + 3) (by omega), gl (28 + 5 * c + 2) (by omega), gl (28 + 5 * c + 1) (by omega), gl 7 (by omega), z1, od c]
    exact r
  · intro k a1 a2
    rw [z3] at a2
    have q := eD k a1 a2
    have o := hO k a1 a2
    unfold orR at *
    rw [go k 0 a2 (by omega), go k 1 a2 (by omega), go k 2 a2 (by omega), go k 3 a2 (by omega), go k 4 a2 (by omega), gl (28 + 5 * s (111 + 7 * k + 2) + 2) (by omega), gl (28 + 5 * s (111 + 7 * k + 3) + 2) (by omega), z1]
    exact q
  · intro c a1 a2 a3
    rw [z0] at a2
    rw [gl _ (by omega)]
    exact hX c a1 a2 (fun z => a3 ((nd c).mpr z))
  · rw [z3]; exact hz
  · rw [gl 4 (by omega)]; exact hd
  · rw [gl 6 (by omega)]; exact hsat
/-- a new order, its version on the chair x -/
theorem given_R {I J : mIt} {b : Nat} {s t : Int → Int} {what name one other x a d n : Int} (h : RX x I b s) (n0 : 0 ≤ name) (n7 : name ≤ 7) (o0 : 0 ≤ one) (o7 : one ≤ 7) (p0 : 0 ≤ other) (p7 : other ≤ 7) (w0 : 0 ≤ what) (w2 : what ≤ 2) (hn : s 3 = n) (hn6 : n < 6)
    (hst : s (12 + name) = -1 ∨ name = one ∨ name = other) (ha : s (12 + one) = a) (hd' : s (12 + other) = d) (a0 : 0 ≤ a) (d0 : 0 ≤ d)
    (J3 : J (b + 3) = fset (I (b + 3)) name x) (J6 : J (b + 6) = fset (I (b + 6)) x (res what (I (b + 6) a) (I (b + 6) d))) (J7 : J (b + 7) = fset (I (b + 7)) x 1000000) (J8 : J (b + 8) = fset (fset (fset (I (b + 8)) x (I b 5)) a (I b 5)) d (I b 5))
    (J10 : J (b + 10) = fset (I (b + 10)) n what) (J11 : J (b + 11) = fset (I (b + 11)) n x) (J12 : J (b + 12) = fset (I (b + 12)) n a) (J13 : J (b + 13) = fset (I (b + 13)) n d) (J14 : J (b + 14) = fset (I (b + 14)) n (s 2)) (J9 : J (b + 9) 0 = n + 1) (Jz : ∀ y : Nat, y ≠ b + 3 → y ≠ b + 6 → y ≠ b + 7 → y ≠ b + 8 → (y < b + 9 ∨ b + 14 < y) → J y = I y)
    (tn : t (12 + name) = x) (t0 : t (28 + 5 * x + 0) = 1) (t1 : t (28 + 5 * x + 1) = 0) (t2 : t (28 + 5 * x + 2) = 0) (t3 : t (28 + 5 * x + 3) = -1) (tu : ∀ c : Int, 0 ≤ c → c < 7 → t (28 + 5 * c + 4) = if c = x ∨ c = a ∨ c = d then s 7 else s (28 + 5 * c + 4))
    (tw : t (111 + 7 * n + 0) = what ∧ t (111 + 7 * n + 1) = x ∧ t (111 + 7 * n + 2) = a ∧ t (111 + 7 * n + 3) = d ∧ t (111 + 7 * n + 4) = -1 ∧ t (111 + 7 * n + 5) = s 2) (tz : t 3 = n + 1)
    (tk : ∀ i : Int, i ≠ 3 → i ≠ 12 + name → (i < 28 ∨ 62 < i) → i < 111 + 7 * n → t i = s i) (tc : ∀ c w : Int, 0 ≤ c → c ≠ x → 0 ≤ w → w ≤ 3 → c < 7 → t (28 + 5 * c + w) = s (28 + 5 * c + w)) : RR J b t := by
  obtain ⟨⟨hH, hN, hM, hO, hQ, hW, hV, eH, eN, eM, eO, eC, eD, hR⟩, ⟨x0, x1⟩, hnd, hX, hz, hd, hsat⟩ := h
  have h7 := hH.1
  have h2 := hH.2.2.1
  have h3 := hH.2.2.2.1
  have Jb := Jz b (by omega) (by omega) (by omega) (by omega) (by omega)
  have J4 := Jz (b + 4) (by omega) (by omega) (by omega) (by omega) (by omega)
  have gl : ∀ i : Int, i < 12 → i ≠ 3 → t i = s i := fun i q1 q2 => tk i q2 (by omega) (by omega) (by omega)
  have gm : ∀ i : Int, 63 ≤ i → i < 111 → t i = s i := fun i q1 q2 => tk i (by omega) (by omega) (by omega) (by omega)
  have go : ∀ k w : Int, 0 ≤ k → k < n → 0 ≤ w → w < 7 → t (111 + 7 * k + w) = s (111 + 7 * k + w) := fun k w q1 q2 q3 q4 => tk _ (by omega) (by omega) (by omega) (by omega)
  have z0 := gl 0 (by omega) (by omega)
  have z1 := gl 1 (by omega) (by omega)
  have z2 := gl 2 (by omega) (by omega)
  have hada : hadP s a := ⟨one, o0, by omega, ha⟩
  have hadd : hadP s d := ⟨other, p0, by omega, hd'⟩
  have ax : a ≠ x := fun z => hnd (z ▸ Or.inl hada)
  have dx : d ≠ x := fun z => hnd (z ▸ Or.inl hadd)
  have a7 : a < s 0 := by have := (hN one o0 (by omega)).1; omega
  have d7 : d < s 0 := by have := (hN other p0 (by omega)).1; omega
  have od : ∀ c, c ≠ x → (ordP t c ↔ ordP s c) := by
    intro c cx
    unfold ordP
    rw [tz, hn]
    constructor
    · rintro ⟨k, q1, q2, f⟩
      by_cases hk : k = n
      · rw [hk, tw.2.1] at f; exact absurd f.symm cx
      · exact ⟨k, q1, by omega, by rw [← go k 1 q1 (by omega) (by omega) (by omega)]; exact f⟩
    · rintro ⟨k, q1, q2, f⟩
      exact ⟨k, q1, by omega, by rw [go k 1 q1 (by omega) (by omega) (by omega)]; exact f⟩
  have odx : ordP t x := ⟨n, by omega, by omega, tw.2.1⟩
  have ndx : need t x := Or.inr (Or.inr (Or.inr odx))
  have rda : redP t a := ⟨n, by omega, by omega, Or.inl tw.2.2.1⟩
  have rdd : redP t d := ⟨n, by omega, by omega, Or.inr tw.2.2.2.1⟩
  have ndc : ∀ c : Int, 0 ≤ c → c ≠ x → (need t c ↔ need s c) := by
    intro c c0 cx
    constructor
    · rintro (⟨k, q1, q2, f⟩ | ⟨m, q1, q2, k, q3, q4, f⟩ | ⟨k, q1, q2, f⟩ | f)
      · by_cases hk : k = name
        · rw [hk, tn] at f; exact absurd f.symm cx
        · exact Or.inl ⟨k, q1, q2, by rw [← tk _ (by omega) (by omega) (by omega) (by omega)]; exact f⟩
      · rw [z2] at q2
        exact Or.inr (Or.inl ⟨m, q1, q2, k, q3, q4, by rw [← gm _ (by omega) (by omega)]; exact f⟩)
      · rw [tz] at q2
        by_cases hk : k = n
        · rw [hk, tw.2.2.1, tw.2.2.2.1] at f
          rcases f with f | f
          · exact Or.inl (f ▸ hada)
          · exact Or.inl (f ▸ hadd)
        · rw [go k 2 q1 (by omega) (by omega) (by omega), go k 3 q1 (by omega) (by omega) (by omega)] at f
          exact Or.inr (Or.inr (Or.inl ⟨k, q1, by omega, f⟩))
      · exact Or.inr (Or.inr (Or.inr ((od c cx).mp f)))
    · rintro (⟨k, q1, q2, f⟩ | ⟨m, q1, q2, k, q3, q4, f⟩ | ⟨k, q1, q2, f⟩ | f)
      · by_cases hk : k = name
        · rw [hk] at f
          rcases hst with g | g | g
          · omega
          · rw [g, ha] at f; exact Or.inr (Or.inr (Or.inl (f ▸ rda)))
          · rw [g, hd'] at f; exact Or.inr (Or.inr (Or.inl (f ▸ rdd)))
        · exact Or.inl ⟨k, q1, q2, by rw [tk _ (by omega) (by omega) (by omega) (by omega)]; exact f⟩
      · exact Or.inr (Or.inl ⟨m, q1, by rw [z2]; exact q2, k, q3, q4, by rw [gm _ (by omega) (by omega)]; exact f⟩)
      · refine Or.inr (Or.inr (Or.inl ⟨k, q1, by omega, ?_⟩))
        rw [go k 2 q1 (by omega) (by omega) (by omega), go k 3 q1 (by omega) (by omega) (by omega)]
        exact f
      · exact Or.inr (Or.inr (Or.inr ((od c cx).mpr f)))
  have ox : ∀ k : Int, 0 ≤ k → k < s 3 → s (111 + 7 * k + 1) ≠ x ∧ s (111 + 7 * k + 2) ≠ x ∧ s (111 + 7 * k + 3) ≠ x := fun k a1 a2 =>
    ⟨fun z => hnd (Or.inr (Or.inr (Or.inr ⟨k, a1, a2, z⟩))), fun z => hnd (Or.inr (Or.inr (Or.inl ⟨k, a1, a2, Or.inl z⟩))), fun z => hnd (Or.inr (Or.inr (Or.inl ⟨k, a1, a2, Or.inr z⟩)))⟩
  refine ⟨⟨?_, ?_, ?_, ?_, ?_, ?_, ?_, ?_, ?_, ?_, ?_, ?_, ?_, ?_⟩, ?_, ?_, ?_, ?_⟩
  · unfold IvH at *
    rw [z0, z1, z2, tz, gl 8 (by omega) (by omega), gl 9 (by omega) (by omega), gl 10 (by omega) (by omega), gl 11 (by omega) (by omega)]
    exact ⟨hH.1, hH.2.1, hH.2.2.1, by omega, hH.2.2.2.2⟩
  · intro k a1 a2
    have := hN k a1 a2
    rw [z0, tk (20 + k) (by omega) (by omega) (by omega) (by omega)]
    by_cases q : k = name
    · rw [q, tn]; rw [q] at this; omega
    · rw [tk _ (by omega) (by omega) (by omega) (by omega)]; exact this
  · intro m k a1 a2 a3 a4
    rw [z2] at a2
    rw [z0, gm _ (by omega) (by omega), gm _ (by omega) (by omega)]
    exact hM m k a1 a2 a3 a4
  · intro k a1 a2
    rw [z0, z2]
    by_cases q : k = n
    · rw [q, tw.1, tw.2.1, tw.2.2.1, tw.2.2.2.1, tw.2.2.2.2.2]; omega
    · rw [go k 0 a1 (by omega) (by omega) (by omega), go k 1 a1 (by omega) (by omega) (by omega), go k 2 a1 (by omega) (by omega) (by omega), go k 3 a1 (by omega) (by omega) (by omega), go k 5 a1 (by omega) (by omega) (by omega)]
      exact hO k a1 (by omega)
  · refine ⟨fun j k a1 a2 a3 => ?_, fun k j a1 a2 a3 => ?_, fun m i k a1 a2 a3 a4 a5 a6 a7 => ?_⟩
    · rw [go j 5 a1 (by omega) (by omega) (by omega), go j 1 a1 (by omega) (by omega) (by omega)]
      by_cases q : k = n
      · rw [q, tw.2.1, tw.2.2.2.2.2]
        exact ⟨(hO j a1 (by omega)).2.2.2.2.2, (ox j a1 (by omega)).1⟩
      · rw [go k 5 (by omega) (by omega) (by omega) (by omega), go k 1 (by omega) (by omega) (by omega) (by omega)]
        exact hQ.1 j k a1 a2 (by omega)
    · by_cases q : j = n
      · rw [q, tw.2.1]
        by_cases q2 : k = n
        · rw [q2, tw.2.2.1, tw.2.2.2.1]; exact ⟨ax, dx⟩
        · rw [go k 2 a1 (by omega) (by omega) (by omega), go k 3 a1 (by omega) (by omega) (by omega)]
          exact (ox k a1 (by omega)).2
      · rw [go k 2 a1 (by omega) (by omega) (by omega), go k 3 a1 (by omega) (by omega) (by omega), go j 1 (by omega) (by omega) (by omega) (by omega)]
        exact hQ.2.1 k j a1 a2 (by omega)
    · rw [z2] at a2
      rw [gm _ (by omega) (by omega)]
      by_cases q : k = n
      · rw [q, tw.2.1]
        exact fun z => hnd (Or.inr (Or.inl ⟨m, a1, a2, i, a3, a4, z⟩))
      · rw [go k 5 a5 (by omega) (by omega) (by omega)] at a7
        rw [go k 1 a5 (by omega) (by omega) (by omega)]
        exact hQ.2.2 m i k a1 a2 a3 a4 a5 (by omega) a7
  · intro c a1 a2
    rw [z0] at a2
    by_cases q : c = x
    · rw [q, t0]; exact ⟨Or.inr rfl, fun _ => rfl⟩
    · rw [tc c 0 a1 q (by omega) (by omega) (by omega)]
      exact ⟨(hW c a1 a2).1, fun z => (hW c a1 a2).2 ((ndc c a1 q).mp z)⟩
  · intro c a1 a2
    by_cases q : c = x
    · rw [q, t1]; omega
    · rw [tc c 1 a1 q (by omega) (by omega) (by omega)]; exact hV c a1 a2
  · unfold EqH at *
    rw [Jb, Jz (b + 1) (by omega) (by omega) (by omega) (by omega) (by omega), z0, z1, z2, gl 5 (by omega) (by omega), gl 8 (by omega) (by omega), gl 9 (by omega) (by omega), gl 10 (by omega) (by omega), gl 11 (by omega) (by omega)]
    exact eH
  · intro k a1 a2
    have := eN k a1 a2
    rw [J3, J4, tk (20 + k) (by omega) (by omega) (by omega) (by omega)]
    by_cases q : k = name
    · rw [q, fset_at, tn]; rw [q] at this; exact ⟨rfl, this.2⟩
    · rw [fset_ne _ _ q, tk _ (by omega) (by omega) (by omega) (by omega)]; exact this
  · intro m a1 a2 k a3 a4
    rw [z2] at a2
    rw [Jz (mC b m) (by unfold mC; omega) (by unfold mC; omega) (by unfold mC; omega) (by unfold mC; omega) (by unfold mC; omega), Jz (mH b m) (by unfold mH; omega) (by unfold mH; omega) (by unfold mH; omega) (by unfold mH; omega) (by unfold mH; omega), gm _ (by omega) (by omega), gm _ (by omega) (by omega)]
    exact eM m a1 a2 k a3 a4
  · intro k a1 a2
    rw [J10, J11, J12, J13, J14]
    show fset (I (b + 10)) n what k = _ ∧ fset (I (b + 11)) n x k = _ ∧ fset (I (b + 12)) n a k = _ ∧ fset (I (b + 13)) n d k = _ ∧ fset (I (b + 14)) n (s 2) k = _
    by_cases q : k = n
    · rw [q, fset_at, fset_at, fset_at, fset_at, fset_at, tw.1, tw.2.1, tw.2.2.1, tw.2.2.2.1, tw.2.2.2.2.2]
      exact ⟨rfl, rfl, rfl, rfl, rfl⟩
    · rw [fset_ne _ _ q, fset_ne _ _ q, fset_ne _ _ q, fset_ne _ _ q, fset_ne _ _ q, go k 0 a1 (by omega) (by omega) (by omega), go k 1 a1 (by omega) (by omega) (by omega), go k 2 a1 (by omega) (by omega) (by omega), go k 3 a1 (by omega) (by omega) (by omega), go k 5 a1 (by omega) (by omega) (by omega)]
      exact eO k a1 (by omega)
  · intro c a1 a2 a3
    rw [z0] at a2
    unfold chR
    rw [Jb, J8, J6, J7, gl 7 (by omega) (by omega), z1, tu c a1 (by omega)]
    by_cases q : c = x
    · subst q
      rw [fset_ne _ _ (Ne.symm dx), fset_ne _ _ (Ne.symm ax), fset_at, if_pos (Or.inl rfl), t2, t3]
      exact ⟨by omega, Or.inl ⟨odx, rfl, rfl⟩⟩
    · have r := eC c a1 a2 ((ndc c a1 q).mp a3)
      unfold chR at r
      rw [fset_ne (I (b + 6)) _ q, fset_ne (I (b + 7)) _ q, tc c 1 a1 q (by omega) (by omega) (by omega), tc c 2 a1 q (by omega) (by omega) (by omega), tc c 3 a1 q (by omega) (by omega) (by omega), od c q]
      refine ⟨?_, r.2⟩
      simp only [fset]
      have := r.1
      by_cases q1 : c = d
      · rw [if_pos q1, if_pos (Or.inr (Or.inr q1))]; omega
      · rw [if_neg q1]
        by_cases q2 : c = a
        · rw [if_pos q2, if_pos (Or.inr (Or.inl q2))]; omega
        · rw [if_neg q2, if_neg q, if_neg (by omega)]; exact this
  · intro k a1 a2
    unfold orR
    rw [J6, J7, z1]
    by_cases q : k = n
    · rw [q, tw.1, tw.2.1, tw.2.2.1, tw.2.2.2.1, tw.2.2.2.2.1, fset_at, fset_at, fset_ne _ _ ax, fset_ne _ _ dx]
      exact ⟨Or.inl ⟨rfl, rfl⟩, rfl⟩
    · have r := eD k a1 (by omega)
      have o := hO k a1 (by omega)
      obtain ⟨o1, o2, o3⟩ := ox k a1 (by omega)
      unfold orR at r
      rw [go k 0 a1 (by omega) (by omega) (by omega), go k 1 a1 (by omega) (by omega) (by omega), go k 2 a1 (by omega) (by omega) (by omega), go k 3 a1 (by omega) (by omega) (by omega), go k 4 a1 (by omega) (by omega) (by omega), fset_ne _ _ o1, fset_ne _ _ o1, fset_ne _ _ o2, fset_ne _ _ o3, tc _ 2 (by omega) o2 (by omega) (by omega) (by omega), tc _ 2 (by omega) o3 (by omega) (by omega) (by omega)]
      exact r
  · intro c a1 a2
    have := hR c a1 a2
    have rr := res_rg what (x := I (b + 6) a) (y := I (b + 6) d)
    rw [J6, J7]
    by_cases q : c = x
    · rw [q, fset_at, fset_at]; omega
    · rw [fset_ne _ _ q, fset_ne _ _ q]; exact this
  · intro c a1 a2 a3
    rw [z0] at a2
    have q : c ≠ x := fun z => a3 (z ▸ ndx)
    rw [tc c 0 a1 q (by omega) (by omega) (by omega)]
    exact hX c a1 a2 q (fun z => a3 ((ndc c a1 q).mpr z))
  · rw [J9, tz]
  · rw [Jb, gl 4 (by omega) (by omega)]; exact hd
  · rw [Jb, gl 6 (by omega) (by omega)]; exact hsat
