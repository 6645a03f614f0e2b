/-! ===== the mathematics: an order, on both sides ===== -/
theorem goA_R {I : mIt} {b n mc nc : Nat} {s : Int → Int} (h : RR I b s) (hn : s 3 = n) (hm : s 2 = mc) (hc : s 0 = nc) {name one other : Int} (n0 : 0 ≤ name) (n7 : name ≤ 7) : RR (goA I b name one other) b (gvA s n mc nc name one other) ∧ (gvA s n mc nc name one other (12 + name) = -1 ∨ name = one ∨ name = other) := by
  have c3 : ∀ i : Int, i ≠ 7 → fset s 7 (s 7 + 1) i = s i := fun i q => fset_ne _ _ q
  unfold goA gvA
  by_cases q : name = one ∨ name = other
  · rw [if_pos q, if_pos q]
    exact ⟨turn_R h, Or.inr q⟩
  · rw [if_neg q, if_neg q]
    refine ⟨giveUp_R (turn_R h) (by rw [c3 3 (by omega)]; exact hn) (by rw [c3 2 (by omega)]; exact hm) (by rw [c3 0 (by omega)]; exact hc) n0 n7, Or.inl ?_⟩
    unfold guM; rw [frM_nei nc (fun c _ _ => by omega), fset_at]
theorem goV_1 {I : mIt} {b n mc nc : Nat} {what name one other : Int} (hok : (0 ≤ what ∧ what ≤ 2) ∧ (0 ≤ name ∧ name ≤ 7) ∧ (0 ≤ one ∧ one ≤ 7) ∧ (0 ≤ other ∧ other ≤ 7)) (h1 : go1 I b n mc nc name one other = false) : goV I b n mc nc what name one other = -2 := by
  unfold goV; rw [if_neg (fun z => z hok), if_pos h1]
theorem goV_2 {I : mIt} {b n mc nc : Nat} {what name one other : Int} (hok : (0 ≤ what ∧ what ≤ 2) ∧ (0 ≤ name ∧ name ≤ 7) ∧ (0 ≤ one ∧ one ≤ 7) ∧ (0 ≤ other ∧ other ≤ 7)) (h1 : go1 I b n mc nc name one other = true) (h2 : go2 I b n mc nc name one other = false) : goV I b n mc nc what name one other = -2 := by
  unfold goV; rw [if_neg (fun z => z hok), if_neg (by rw [h1]; decide), if_pos h2]
theorem goV_3 {I : mIt} {b n mc nc : Nat} {what name one other : Int} (hok : (0 ≤ what ∧ what ≤ 2) ∧ (0 ≤ name ∧ name ≤ 7) ∧ (0 ≤ one ∧ one ≤ 7) ∧ (0 ≤ other ∧ other ≤ 7)) (h1 : go1 I b n mc nc name one other = true) (h2 : go2 I b n mc nc name one other = true) (h3 : goS I b n mc nc name one other < 0) : goV I b n mc nc what name one other = -2 := by
  unfold goV; rw [if_neg (fun z => z hok), if_neg (by rw [h1]; decide), if_neg (by rw [h2]; decide), if_pos h3]
theorem goV_4 {I : mIt} {b n mc nc : Nat} {what name one other : Int} (hok : (0 ≤ what ∧ what ≤ 2) ∧ (0 ≤ name ∧ name ≤ 7) ∧ (0 ≤ one ∧ one ≤ 7) ∧ (0 ≤ other ∧ other ≤ 7)) (h1 : go1 I b n mc nc name one other = true) (h2 : go2 I b n mc nc name one other = true) (h3 : ¬ goS I b n mc nc name one other < 0) :
    goV I b n mc nc what name one other = (if 6 ≤ n then -3 else goS I b n mc nc name one other) ∧ goM I b n mc nc what name one other = (if 6 ≤ n then goD I b n mc nc what name one other else goE I b n mc nc what name one other) := by
  constructor
  · unfold goV; rw [if_neg (fun z => z hok), if_neg (by rw [h1]; decide), if_neg (by rw [h2]; decide), if_neg h3]
  · unfold goM; rw [if_neg (fun z => z hok), if_neg (by rw [h1]; decide), if_neg (by rw [h2]; decide), if_neg h3]
theorem order_R {I : mIt} {b n mc nc : Nat} {s : Int → Int} (h : RR I b s) (hn : s 3 = n) (hm : s 2 = mc) (hc : s 0 = nc) (what name one other : Int) (hok : (0 ≤ what ∧ what ≤ 2) ∧ (0 ≤ name ∧ name ≤ 7) ∧ (0 ≤ one ∧ one ≤ 7) ∧ (0 ≤ other ∧ other ≤ 7)) :
    ((goV I b n mc nc what name one other = -2 ∧ gvV s n mc nc name one other = -4) ∨
      (0 ≤ gvV s n mc nc name one other ∧ goM I b n mc nc what name one other b 3 = gvS s n mc nc name one other 5 ∧ ((n = 6 ∧ goV I b n mc nc what name one other = -3) ∨ (n < 6 ∧ goV I b n mc nc what name one other = gvV s n mc nc name one other ∧ RR (goM I b n mc nc what name one other) b (omX s n mc nc what name one other))))) ∧
    (gv1 s n mc nc name one other = true → gv2 s n mc nc name one other = true → (0 ≤ gvF s n mc nc name one other ∧ gvF s n mc nc name one other < 7) ∧ (0 ≤ gvG s n mc nc name one other ∧ gvG s n mc nc name one other < 7)) := by
  have hok' := hok
  obtain ⟨⟨w0, w2⟩, ⟨n0, n7⟩, ⟨o0, o7⟩, ⟨p0, p7⟩⟩ := hok
  have hn6 : n ≤ 6 := by have := h.1.1.2.2.2.1; omega
  have hnc7 : nc ≤ 7 := by have := h.1.1.1; omega
  obtain ⟨hA, stA⟩ := goA_R (one := one) (other := other) h hn hm hc n0 n7
  have loA : ∀ i : Int, i < 12 → i ≠ 7 → gvA s n mc nc name one other i = s i := fun i a1 a2 => gvA_lo _ _ _ _ _ _ _ a1 a2 n0
  have s1 := sit_R (name := one) (one := one) (other := other) (one' := one) (other' := other) hA (by rw [loA 3 (by omega) (by omega)]; exact hn) (by rw [loA 2 (by omega) (by omega)]; exact hm) (by rw [loA 0 (by omega) (by omega)]; exact hc) o0 o7 (fun _ => rdQ_same hA.1.1 hA.1.2.1 hA.1.2.2.2.2.2.2.2.2.1 o0 o7 p0 p7) (by omega)
  change go1 I b n mc nc name one other = gv1 s n mc nc name one other ∧ (gv1 s n mc nc name one other = true → RR (goB I b n mc nc name one other) b (gvB s n mc nc name one other) ∧ _) at s1
  by_cases g1 : gv1 s n mc nc name one other = true
  case neg =>
    have g1' := Bool.eq_false_iff.mpr g1
    refine ⟨Or.inl ⟨goV_1 hok' (s1.1.trans g1'), ?_⟩, fun z => absurd z g1⟩
    unfold gvV
    rw [if_neg (fun z => g1 z.1)]
  obtain ⟨hB, ⟨b0, b7⟩, kB, stB⟩ := s1.2 g1
  change 0 ≤ gvB s n mc nc name one other (12 + one) at b0
  have loB : ∀ i : Int, i < 12 → i ≠ 7 → i ≠ 5 → i ≠ 6 → gvB s n mc nc name one other i = s i := fun i a1 a2 a3 a4 => by rw [gvB_lo _ _ _ _ _ _ _ a1 a3 a4 o0, loA i a1 a2]
  have s2 := sit_R (name := other) (one := one) (other := other) (one' := one) (other' := other) hB (by rw [loB 3 (by omega) (by omega) (by omega) (by omega)]; exact hn) (by rw [loB 2 (by omega) (by omega) (by omega) (by omega)]; exact hm) (by rw [loB 0 (by omega) (by omega) (by omega) (by omega)]; exact hc) p0 p7 (fun _ => rdQ_same hB.1.1 hB.1.2.1 hB.1.2.2.2.2.2.2.2.2.1 o0 o7 p0 p7) (by omega)
  change go2 I b n mc nc name one other = gv2 s n mc nc name one other ∧ (gv2 s n mc nc name one other = true → RR (goC I b n mc nc name one other) b (gvC s n mc nc name one other) ∧ _) at s2
  by_cases g2 : gv2 s n mc nc name one other = true
  case neg =>
    have g2' := Bool.eq_false_iff.mpr g2
    refine ⟨Or.inl ⟨goV_2 hok' (s1.1.trans g1) (s2.1.trans g2'), ?_⟩, fun _ z => absurd z g2⟩
    unfold gvV
    rw [if_neg (fun z => g2 z.2)]
  obtain ⟨hC, ⟨c0, c7⟩, kC, stC⟩ := s2.2 g2
  change 0 ≤ gvG s n mc nc name one other at c0
  have loC : ∀ i : Int, i < 12 → i ≠ 7 → i ≠ 5 → i ≠ 6 → gvC s n mc nc name one other i = s i := fun i a1 a2 a3 a4 => by rw [gvC_lo _ _ _ _ _ _ _ a1 a3 a4 o0 p0, loA i a1 a2]
  have l7 : gvC s n mc nc name one other 7 = s 7 + 1 := by rw [gvC_lo _ _ _ _ _ _ _ (by omega) (by omega) (by omega) o0 p0, gvA_7 _ _ _ _ _ _ _ n0]
  have eF : gvF s n mc nc name one other = gvB s n mc nc name one other (12 + one) := kC one o0 (by omega) b0 o0 (Or.inl rfl)
  have f0 : 0 ≤ gvF s n mc nc name one other := by rw [eF]; exact b0
  have hNC := hC.1.2.1
  have eNC := hC.1.2.2.2.2.2.2.2.2.1
  have fR : gvF s n mc nc name one other < nc := by
    have := (hNC one o0 (by omega)).1
    rw [loC 0 (by omega) (by omega) (by omega) (by omega)] at this
    have e : gvF s n mc nc name one other = gvC s n mc nc name one other (12 + one) := rfl
    omega
  have gR : gvG s n mc nc name one other < nc := by
    have := (hNC other p0 (by omega)).1
    rw [loC 0 (by omega) (by omega) (by omega) (by omega)] at this
    have e : gvG s n mc nc name one other = gvC s n mc nc name one other (12 + other) := rfl
    omega
  refine ⟨?_, fun _ _ => ⟨⟨f0, by omega⟩, ⟨c0, by omega⟩⟩⟩
  have stN : gvC s n mc nc name one other (12 + name) = -1 ∨ name = one ∨ name = other := by
    by_cases q : name = one ∨ name = other
    · exact Or.inr q
    · left
      rcases stA with z | z
      · exact stC name n0 (by omega) (by omega) (stB name n0 (by omega) (by omega) z)
      · exact absurd z q
  have n3 : gvC s n mc nc name one other 3 = n := by rw [loC 3 (by omega) (by omega) (by omega) (by omega)]; exact hn
  -- the row that the last seat is looked for in
  have dC : ∀ i : Int, i < 111 + 7 * (n : Int) → gvD s n mc nc name one other i = gvC s n mc nc name one other i := by
    intro i hi
    unfold gvD
    split
    · rw [fset_ne _ _ (by omega), fset_ne _ _ (by omega)]
    · rfl
  have hD := slot_R (t := gvD s n mc nc name one other) hC (by rw [n3]; exact fun i _ => dC i)
  have d3 : ∀ i : Int, i < 12 → gvD s n mc nc name one other i = gvC s n mc nc name one other i := fun i q => dC i (by omega)
  have hV : gvV s n mc nc name one other = if gvK s n mc nc name one other < 0 then -4 else gvK s n mc nc name one other := by
    unfold gvV; rw [if_pos ⟨g1, g2⟩]
  have hS : gvS s n mc nc name one other = if gvK s n mc nc name one other < 0 then gvE s n mc nc name one other else gvX s n mc nc name one other := by
    unfold gvS; rw [if_pos g1, if_pos g2]
  rcases seat_R hD (n := n) (mc := mc) (nc := nc) (one := one) (other := other) (one' := one) (other' := other) (by rw [d3 3 (by omega)]; exact n3) (by rw [d3 2 (by omega), loC 2 (by omega) (by omega) (by omega) (by omega)]; exact hm) (by rw [d3 0 (by omega), loC 0 (by omega) (by omega) (by omega) (by omega)]; exact hc) (rdQ_same hD.1.1 hD.1.2.1 hD.1.2.2.2.2.2.2.2.2.1 o0 o7 p0 p7) (by omega) with ⟨q1, q2⟩ | ⟨x, x0, ⟨e1, e2⟩, hx, hp, hr, hk⟩
  · left
    change goS I b n mc nc name one other = -2 at q1
    change gvK s n mc nc name one other = -4 at q2
    refine ⟨goV_3 hok' (s1.1.trans g1) (s2.1.trans g2) (by omega), ?_⟩
    rw [hV, q2]; rfl
  · right
    have xr := x0.2
    rw [d3 0 (by omega), loC 0 (by omega) (by omega) (by omega) (by omega), hc] at xr
    change goS I b n mc nc name one other = x at e1
    change gvK s n mc nc name one other = x at e2
    change RX x (seatP (goC I b n mc nc name one other) b n mc nc one other) b (gvE s n mc nc name one other) at hx
    obtain ⟨vv, mm⟩ := goV_4 (what := what) hok' (s1.1.trans g1) (s2.1.trans g2) (by omega : ¬ goS I b n mc nc name one other < 0)
    rw [vv, mm, e1]
    have hV' : gvV s n mc nc name one other = x := by rw [hV, e2, if_neg (by omega)]
    have hS' : gvS s n mc nc name one other = gvX s n mc nc name one other := by rw [hS, e2, if_neg (by omega)]
    have C5 : goC I b n mc nc name one other b 5 = I b 5 + 1 := by rw [goC_b _ _ _ _ _ _ _ _ (by omega) (by omega), goA_5]
    have S5 : seatP (goC I b n mc nc name one other) b n mc nc one other b 5 = I b 5 + 1 := by rw [seatP_b _ _ _ _ _ _ _ (by omega), C5]
    have eD' : goD I b n mc nc what name one other = mUp (vPlace (seatP (goC I b n mc nc name one other) b n mc nc one other) (b + 6) (b + 7) (b + 8) x (goX I b n mc nc what name one other) 1000000 (I b 5 + 1)) (b + 3) name x := by
      have e1' : seatV (goC I b n mc nc name one other) b n mc nc one other = x := e1
      unfold goD seatI
      rw [e1', if_neg (by omega), C5]
    obtain ⟨D3, D6, D7, D8, Dz⟩ := pl_J x0.1 (by omega) eD'
    have Db := Dz b (by omega) (by omega) (by omega) (by omega)
    have E5 : gvE s n mc nc name one other 5 = gvX s n mc nc name one other 5 := by
      unfold gvX
      rw [fset_ne _ _ (by omega), fset_ne _ _ (by omega), fset_ne _ _ (by omega), fset_ne _ _ (by omega), fset_ne _ _ (by omega), fset_ne _ _ (by omega), fset_ne _ _ (by omega), fset_ne _ _ (by omega)]
    have sent : goD I b n mc nc what name one other b 3 = gvS s n mc nc name one other 5 := by
      rw [Db, hS', ← E5]
      exact hx.1.2.2.2.2.2.2.2.1.2.2.1
    refine ⟨by omega, ?_, ?_⟩
    · by_cases q : 6 ≤ n
      · rw [if_pos q]; exact sent
      · rw [if_neg q]
        unfold goE oAdd vUse
        rw [← sent]
        have key : ∀ (K : mIt) (k1 k2 k3 k4 k5 k6 v1 v2 v3 v4 v5 v6 : Int), mUp (mUp (mUp (mUp (mUp (mUp K (b + 10) k1 v1) (b + 11) k2 v2) (b + 12) k3 v3) (b + 13) k4 v4) (b + 14) k5 v5) (b + 9) k6 v6 b = K b := by
          intro K k1 k2 k3 k4 k5 k6 v1 v2 v3 v4 v5 v6
          rw [mUp_ne _ _ _ (by omega), mUp_ne _ _ _ (by omega), mUp_ne _ _ _ (by omega), mUp_ne _ _ _ (by omega), mUp_ne _ _ _ (by omega), mUp_ne _ _ _ (by omega)]
        have key2 : ∀ (K : mIt) (k1 v1 : Int), mUp K (b + 8) k1 v1 b = K b := fun K k1 v1 => mUp_ne _ _ _ (by omega)
        repeat' split
        all_goals simp only [key, key2]
    · by_cases q : 6 ≤ n
      · left; rw [if_pos q]; exact ⟨by omega, rfl⟩
      · right
        rw [if_neg q, if_neg q]
        refine ⟨by omega, hV'.symm, ?_⟩
        have oF : goF I b n mc nc name one other = gvF s n mc nc name one other := (eNC one o0 (by omega)).1
        have oG : goG I b n mc nc name one other = gvG s n mc nc name one other := (eNC other p0 (by omega)).1
        -- the row before
        have loE : ∀ i : Int, i < 12 → i ≠ 5 → gvE s n mc nc name one other i = gvC s n mc nc name one other i := fun i a1 a2 => gvE_lo _ _ _ _ _ _ _ a1 a2
        have E3 : gvE s n mc nc name one other 3 = n := by rw [loE 3 (by omega) (by omega), n3]
        have E2 : gvE s n mc nc name one other 2 = mc := by rw [loE 2 (by omega) (by omega), loC 2 (by omega) (by omega) (by omega) (by omega), hm]
        have E7 : gvE s n mc nc name one other 7 = s 7 + 1 := by rw [loE 7 (by omega) (by omega), l7]
        have dD : gvD s n mc nc name one other (12 + one) = gvF s n mc nc name one other ∧ gvD s n mc nc name one other (12 + other) = gvG s n mc nc name one other := ⟨dC _ (by omega), dC _ (by omega)⟩
        have nF : gvD s n mc nc name one other (12 + one) ≠ x := fun z => hr ⟨o0, Or.inl z⟩
        have nG : gvD s n mc nc name one other (12 + other) ≠ x := fun z => hr ⟨o0, Or.inr z⟩
        have EF : gvE s n mc nc name one other (12 + one) = gvF s n mc nc name one other := (hk one o0 (by omega) nF).1.trans dD.1
        have EG : gvE s n mc nc name one other (12 + other) = gvG s n mc nc name one other := (hk other p0 (by omega) nG).1.trans dD.2
        have EN : gvE s n mc nc name one other (12 + name) = -1 ∨ name = one ∨ name = other := by
          rcases stN with z | z
          · left
            have z' : gvD s n mc nc name one other (12 + name) = -1 := (dC _ (by omega)).trans z
            exact (hk name n0 (by omega) (by omega)).1.trans z'
          · exact Or.inr z
        have Eo : ∀ w : Int, 0 ≤ w → gvE s n mc nc name one other (111 + 7 * (n : Int) + w) = gvD s n mc nc name one other (111 + 7 * (n : Int) + w) := fun w hw => cfS_ne _ _ _ _ _ _ (by omega) (by omega)
        have Dw2 : gvD s n mc nc name one other (111 + 7 * (n : Int) + 2) = gvF s n mc nc name one other := by
          unfold gvD; rw [if_pos (by omega), fset_ne _ _ (by omega), fset_at]
        have Dw3 : gvD s n mc nc name one other (111 + 7 * (n : Int) + 3) = gvG s n mc nc name one other := by
          unfold gvD; rw [if_pos (by omega), fset_at]
        -- the room behind
        have J0 : goE I b n mc nc what name one other = oAdd (mUp (mUp (goD I b n mc nc what name one other) (b + 8) (gvF s n mc nc name one other) (I b 5 + 1)) (b + 8) (gvG s n mc nc name one other) (I b 5 + 1)) (b + 9) (b + 10) (b + 11) (b + 12) (b + 13) (b + 14) what x (gvF s n mc nc name one other) (gvG s n mc nc name one other) mc := by
          unfold goE vUse
          rw [oF, oG, e1, if_pos ⟨c0, by omega⟩, if_pos ⟨f0, by omega⟩]
        have z9 : mUp (mUp (goD I b n mc nc what name one other) (b + 8) (gvF s n mc nc name one other) (I b 5 + 1)) (b + 8) (gvG s n mc nc name one other) (I b 5 + 1) (b + 9) 0 = n := by
          rw [mUp_ne _ _ _ (by omega), mUp_ne _ _ _ (by omega), Dz (b + 9) (by omega) (by omega) (by omega) (by omega), hx.2.2.2.2.1, E3]
        rw [oAdd, z9, if_pos ⟨by omega, by omega⟩] at J0
        have S6 : seatP (goC I b n mc nc name one other) b n mc nc one other (b + 6) = goC I b n mc nc name one other (b + 6) := seatP_ne _ _ _ _ _ _ (by omega) (by omega) (by omega)
        have Jn : ∀ y : Nat, y ≠ b + 8 → (y < b + 9 ∨ b + 14 < y) → goE I b n mc nc what name one other y = goD I b n mc nc what name one other y := fun y q1 q2 => by
          rw [J0, mUp_ne _ _ _ (by omega), mUp_ne _ _ _ (by omega), mUp_ne _ _ _ (by omega), mUp_ne _ _ _ (by omega), mUp_ne _ _ _ (by omega), mUp_ne _ _ _ (by omega), mUp_ne _ _ _ q1, mUp_ne _ _ _ q1]
        -- the row behind
        have T : ∀ i : Int, i ≠ 3 → i ≠ 111 + 7 * (n : Int) + 5 → i ≠ 111 + 7 * (n : Int) + 4 → i ≠ 111 + 7 * (n : Int) + 1 → i ≠ 111 + 7 * (n : Int) + 0 → omX s n mc nc what name one other i = gvX s n mc nc name one other i := fun i r1 r2 r3 r4 r5 => by
          unfold omX
          rw [fset_ne _ _ r1, fset_ne _ _ r2, fset_ne _ _ r3, fset_ne _ _ r4, fset_ne _ _ r5, hS']
        have TX : ∀ i : Int, gvX s n mc nc name one other i = if i = 28 + 5 * x + 4 then s 7 + 1 else if i = 28 + 5 * x + 3 then -1 else if i = 28 + 5 * x + 2 then 0 else if i = 28 + 5 * x + 1 then 0 else if i = 28 + 5 * x + 0 then 1 else if i = 12 + name then x else if i = 28 + 5 * gvG s n mc nc name one other + 4 then s 7 + 1 else if i = 28 + 5 * gvF s n mc nc name one other + 4 then s 7 + 1 else gvE s n mc nc name one other i := fun i => by
          unfold gvX
          rw [e2]
          simp only [fset]
        have TXo : ∀ i : Int, 63 ≤ i → gvX s n mc nc name one other i = gvE s n mc nc name one other i := fun i r => by
          rw [TX, if_neg (by omega), if_neg (by omega), if_neg (by omega), if_neg (by omega), if_neg (by omega), if_neg (by omega), if_neg (by omega), if_neg (by omega)]
        refine given_R (n := n) (a := gvF s n mc nc name one other) (d := gvG s n mc nc name one other) hx n0 n7 o0 o7 p0 p7 w0 w2 E3 (by omega) EN EF EG f0 c0 ?_ ?_ ?_ ?_ ?_ ?_ ?_ ?_ ?_ ?_ ?_ ?_ ?_ ?_ ?_ ?_ ?_ ?_ ?_ ?_ ?_
        · rw [Jn _ (by omega) (by omega), D3]
        · rw [Jn _ (by omega) (by omega), D6, S6]
          unfold goX
          rw [oF, oG, vOn, vOn, if_pos ⟨f0, by omega⟩, if_pos ⟨c0, by omega⟩]
        · rw [Jn _ (by omega) (by omega), D7]
        · rw [J0, mUp_ne _ _ _ (by omega), mUp_ne _ _ _ (by omega), mUp_ne _ _ _ (by omega), mUp_ne _ _ _ (by omega), mUp_ne _ _ _ (by omega), mUp_ne _ _ _ (by omega), mUp_at, mUp_at, D8, S5]
        · rw [J0, mUp_ne _ _ _ (by omega), mUp_ne _ _ _ (by omega), mUp_ne _ _ _ (by omega), mUp_ne _ _ _ (by omega), mUp_ne _ _ _ (by omega), mUp_at, mUp_ne _ _ _ (by omega), mUp_ne _ _ _ (by omega), Dz (b + 10) (by omega) (by omega) (by omega) (by omega)]
        · rw [J0, mUp_ne _ _ _ (by omega), mUp_ne _ _ _ (by omega), mUp_ne _ _ _ (by omega), mUp_ne _ _ _ (by omega), mUp_at, mUp_ne _ _ _ (by omega), mUp_ne _ _ _ (by omega), mUp_ne _ _ _ (by omega), Dz (b + 11) (by omega) (by omega) (by omega) (by omega)]
        · rw [J0, mUp_ne _ _ _ (by omega), mUp_ne _ _ _ (by omega), mUp_ne _ _ _ (by omega), mUp_at, mUp_ne _ _ _ (by omega), mUp_ne _ _ _ (by omega), mUp_ne _ _ _ (by omega), mUp_ne _ _ _ (by omega), Dz (b + 12) (by omega) (by omega) (by omega) (by omega)]
        · rw [J0, mUp_ne _ _ _ (by omega), mUp_ne _ _ _ (by omega), mUp_at, mUp_ne _ _ _ (by omega), mUp_ne _ _ _ (by omega), mUp_ne _ _ _ (by omega), mUp_ne _ _ _ (by omega), mUp_ne _ _ _ (by omega), Dz (b + 13) (by omega) (by omega) (by omega) (by omega)]
        · rw [J0, mUp_ne _ _ _ (by omega), mUp_at, mUp_ne _ _ _ (by omega), mUp_ne _ _ _ (by omega), mUp_ne _ _ _ (by omega), mUp_ne _ _ _ (by omega), mUp_ne _ _ _ (by omega), mUp_ne _ _ _ (by omega), Dz (b + 14) (by omega) (by omega) (by omega) (by omega), E2]
        · rw [J0, mUp_at, fset_at]
        · intro y r1 r2 r3 r4 r5
          rw [Jn y r4 r5, Dz y r1 r2 r3 r4]
        · rw [T _ (by omega) (by omega) (by omega) (by omega) (by omega), TX, if_neg (by omega), if_neg (by omega), if_neg (by omega), if_neg (by omega), if_neg (by omega), if_pos rfl]
        · rw [T _ (by omega) (by omega) (by omega) (by omega) (by omega), TX, if_neg (by omega), if_neg (by omega), if_neg (by omega), if_neg (by omega), if_pos rfl]
        · rw [T _ (by omega) (by omega) (by omega) (by omega) (by omega), TX, if_neg (by omega), if_neg (by omega), if_neg (by omega), if_pos rfl]
        · rw [T _ (by omega) (by omega) (by omega) (by omega) (by omega), TX, if_neg (by omega), if_neg (by omega), if_pos rfl]
        · rw [T _ (by omega) (by omega) (by omega) (by omega) (by omega), TX, if_neg (by omega), if_pos rfl]
        · intro c cc c7
          rw [E7, T _ (by omega) (by omega) (by omega) (by omega) (by omega), TX]
          by_cases r1 : c = x
          · rw [if_pos (by omega), if_pos (Or.inl r1)]
          · rw [if_neg (by omega), if_neg (by omega), if_neg (by omega), if_neg (by omega), if_neg (by omega), if_neg (by omega)]
            by_cases r2 : c = gvG s n mc nc name one other
            · rw [if_pos (by omega), if_pos (Or.inr (Or.inr r2))]
            · rw [if_neg (by omega)]
              by_cases r3 : c = gvF s n mc nc name one other
              · rw [if_pos (by omega), if_pos (Or.inr (Or.inl r3))]
              · rw [if_neg (by omega), if_neg (by omega)]
        · refine ⟨?_, ?_, ?_, ?_, ?_, ?_⟩
          · unfold omX; rw [fset_ne _ _ (by omega), fset_ne _ _ (by omega), fset_ne _ _ (by omega), fset_ne _ _ (by omega), fset_at]
          · unfold omX; rw [fset_ne _ _ (by omega), fset_ne _ _ (by omega), fset_ne _ _ (by omega), fset_at, hV']
          · rw [T _ (by omega) (by omega) (by omega) (by omega) (by omega), TXo _ (by omega), Eo 2 (by omega), Dw2]
          · rw [T _ (by omega) (by omega) (by omega) (by omega) (by omega), TXo _ (by omega), Eo 3 (by omega), Dw3]
          · unfold omX; rw [fset_ne _ _ (by omega), fset_ne _ _ (by omega), fset_at]
          · unfold omX; rw [fset_ne _ _ (by omega), fset_at, E2]
        · unfold omX; rw [fset_at]
        · intro i r1 r2 r3 r4
          rw [T _ (by omega) (by omega) (by omega) (by omega) (by omega), TX, if_neg (by omega), if_neg (by omega), if_neg (by omega), if_neg (by omega), if_neg (by omega), if_neg (by omega), if_neg (by omega), if_neg (by omega)]
        · intro c w r1 r2 r3 r4 r5
          rw [T _ (by omega) (by omega) (by omega) (by omega) (by omega), TX, if_neg (by omega), if_neg (by omega), if_neg (by omega), if_neg (by omega), if_neg (by omega), if_neg (by omega), if_neg (by omega), if_neg (by omega)]
