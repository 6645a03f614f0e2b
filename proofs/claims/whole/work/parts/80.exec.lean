/-! ===== the mathematics: a command is done on both sides ===== -/
theorem DoOK_of {N : Int} {K M : mIt} {b : Nat} (h : GS N K b (M 156)) (hN : N ≤ 1000000) (h4 : 0 ≤ M 155 4 ∧ M 155 4 ≤ 4) : DoOK M := by
  obtain ⟨ro, e3, e2, e0⟩ := RoOK_of h hN
  obtain ⟨m5, m6, m1, m10, m7, m4, m8, m9, mst, moO, mvO, mmk, mdu, m2, mn6, m0⟩ := mo_of h hN e3
  have n3 : nOf M = nR K b := by unfold nOf; omega
  have n2 : mOf M = mR K b := by unfold mOf; omega
  have n0 : cOf M = cR K b := by unfold cOf; omega
  unfold DoOK
  rw [n3, n2, n0]
  exact ⟨⟨e3, mn6⟩, ⟨e2, by omega⟩, ⟨e0, by omega⟩, h4, ⟨by omega, by omega, by omega, by omega, by omega, by omega, by omega, by omega⟩, mst, moO, mvO, mmk, fun name one other z => (order_R h.1 e3 e2 e0 0 name one other ⟨⟨by omega, by omega⟩, z⟩).2⟩
theorem md_same {I : mIt} {p : Int → Int} {q : Int} (t row : Int → Int) (hp : p = I 157) (hq : q = I 155 4) : ∀ x : Nat, x ≠ 156 → x ≠ 159 → arS (mdB I p q t (I 158)) 156 row x = I x := by
  intro x h1 h2
  subst hp
  subst hq
  unfold mdB
  rw [arS_ne _ _ h1]
  by_cases a : x = 157
  · subst a; rw [arS_at]
  · rw [arS_ne _ _ a, arS_ne _ _ h2]
    by_cases b : x = 158
    · subst b; rw [arS_at]
    · rw [arS_ne _ _ b]
      by_cases c : x = 155
      · subst c
        rw [mUp_at]
        funext j
        by_cases d : j = 4
        · rw [d, fset_at]
        · rw [fset_ne _ _ d]
      · rw [mUp_ne _ _ _ c]
theorem chP_1 {r q : Int} {p f : Int → Int} (h : r = 1) : chP r q p f = p := by unfold chP; rw [if_neg (by omega)]
theorem chQ_1 {r q : Int} (h : r = 1) : chQ r q = q := by unfold chQ; rw [if_neg (by omega)]
theorem ch_same {I : mIt} (h5 : I 155 5 = 1) (row : Int → Int) : ∀ x : Nat, x ≠ 156 → x ≠ 159 → chB I row x = I x := by
  unfold chB
  exact md_same _ _ (chP_1 h5) (chQ_1 h5)
/-- while a text is played nothing is recorded -/
theorem do_fr {M : mIt} (h5 : M 155 5 = 1) (v : Int) : ∀ x : Nat, x ≠ 156 → x ≠ 159 → doI M v x = M x := by
  intro x h1 h2
  unfold doI
  split
  · unfold pmI
    split
    · rfl
    · split
      · exact md_same _ _ rfl rfl x h1 h2
      · exact md_same _ _ (chP_1 h5) (chQ_1 h5) x h1 h2
  split
  · unfold cmI
    split
    · rfl
    · split
      · exact md_same _ _ (chP_1 h5) (chQ_1 h5) x h1 h2
      · exact md_same _ _ rfl rfl x h1 h2
  split
  · unfold mtI
    split
    · rfl
    · split
      · rfl
      · exact ch_same h5 _ x h1 h2
  split
  · unfold mmI
    split
    · rfl
    · exact ch_same h5 _ x h1 h2
  split
  · unfold kpI
    split
    · rfl
    · exact ch_same h5 _ x h1 h2
  split
  · unfold bkI
    split
    · exact ch_same h5 _ x h1 h2
    · rfl
  · unfold omI
    split
    · rfl
    · split
      · exact md_same _ _ rfl rfl x h1 h2
      · exact md_same _ _ (chP_1 h5) (chQ_1 h5) x h1 h2
theorem chB_6 (I : mIt) (row : Int → Int) : chB I row 156 = row := by unfold chB; rw [arS_at]
def exR (N : Int) (K M : mIt) (b : Nat) (v x y z : Int) : Prop := pfV K b (nR K b) (mR K b) (cR K b) v x y z = doV M v ∧ doV M v ≠ -4 ∧ (0 ≤ doV M v → GS (N + 10) (pfI K b (nR K b) (mR K b) (cR K b) v x y z) b (doI M v 156)) ∧ (∀ w : Nat, w < b ∨ b + 25 ≤ w → pfI K b (nR K b) (mR K b) (cR K b) v x y z w = K w)
theorem ex_R {N : Int} {K M : mIt} {b : Nat} (h : GS N K b (M 156)) (hN : N ≤ 1000000) {v x y z : Int} (h0 : 0 ≤ v) (h8 : v ≤ 8) (hx : v ≠ 6 → v ≠ 7 → x = M 162 0) (hy : v < 5 → y = M 162 1) (hz : v < 3 → z = M 162 2) : exR N K M b v x y z := by
  obtain ⟨ro, e3, e2, e0⟩ := RoOK_of h hN
  obtain ⟨m5, m6, m1, m10, m7, m4, m8, m9, mst, moO, mvO, mmk, mdu, m2, mn6, m0⟩ := mo_of h hN e3
  have n3 : nOf M = nR K b := by unfold nOf; omega
  have n2 : mOf M = mR K b := by unfold mOf; omega
  have n0 : cOf M = cR K b := by unfold cOf; omega
  unfold exR
  have hv : v ≤ 2 ∨ v = 3 ∨ v = 4 ∨ v = 5 ∨ v = 6 ∨ v = 7 ∨ v = 8 := by omega
  rcases hv with q | q | q | q | q | q | q
  · -- an order
    have a1 : pfV K b (nR K b) (mR K b) (cR K b) v x y z = goV K b (nR K b) (mR K b) (cR K b) v x y z := by unfold pfV; rw [if_pos ⟨h0, q⟩]
    have a2 : pfI K b (nR K b) (mR K b) (cR K b) v x y z = goM K b (nR K b) (mR K b) (cR K b) v x y z := by unfold pfI; rw [if_pos ⟨h0, q⟩]
    have a3 : doV M v = omV (M 156) (nR K b) (mR K b) (cR K b) v x y z := by unfold doV; rw [if_neg (by omega), if_neg (by omega), if_neg (by omega), if_neg (by omega), if_neg (by omega), if_neg (by omega), n3, n2, n0, ← hx (by omega) (by omega), ← hy (by omega), ← hz (by omega)]
    have a4 : doI M v = omI M (nR K b) (mR K b) (cR K b) v x y z := by unfold doI; rw [if_neg (by omega), if_neg (by omega), if_neg (by omega), if_neg (by omega), if_neg (by omega), if_neg (by omega), n3, n2, n0, ← hx (by omega) (by omega), ← hy (by omega), ← hz (by omega)]
    obtain ⟨g1, g2, g3⟩ := order_G h e3 e2 e0 v x y z
    rw [a1, a2, a3, a4]
    refine ⟨g1, ?_, fun p => ?_, g3⟩
    · unfold omV
      split
      · omega
      · split
        · omega
        · split <;> omega
    · obtain ⟨q1, q2, q3⟩ := g2 p
      unfold omI
      rw [if_neg (fun z => z q1), if_neg q2, arS_at]
      exact q3
  · -- put
    subst q
    have a1 : pfV K b (nR K b) (mR K b) (cR K b) 3 x y z = pvV K b (nR K b) (mR K b) (cR K b) x y := by unfold pfV; rw [if_neg (by omega), if_pos rfl]
    have a2 : pfI K b (nR K b) (mR K b) (cR K b) 3 x y z = pvI K b (nR K b) (mR K b) (cR K b) x y := by unfold pfI; rw [if_neg (by omega), if_pos rfl]
    have a3 : doV M 3 = pmV (M 156) (nR K b) (mR K b) (cR K b) x y := by unfold doV; rw [if_pos rfl, n3, n2, n0, ← hx (by omega) (by omega), ← hy (by omega)]
    have a4 : doI M 3 = pmI M (nR K b) (mR K b) (cR K b) x y := by unfold doI; rw [if_pos rfl, n3, n2, n0, ← hx (by omega) (by omega), ← hy (by omega)]
    obtain ⟨g1, g2, g3⟩ := put_G h e3 e2 e0 x y
    rw [a1, a2, a3, a4]
    refine ⟨g1, ?_, fun p => ?_, g3⟩
    · unfold pmV
      split
      · omega
      · split <;> omega
    · obtain ⟨q1, q2, q3⟩ := g2 p
      unfold pmI
      rw [if_neg (fun z => z q1), if_neg q2, arS_at]
      exact q3
  · -- copy
    subst q
    have a1 : pfV K b (nR K b) (mR K b) (cR K b) 4 x y z = cnV K b (nR K b) (mR K b) (cR K b) x y := by unfold pfV; rw [if_neg (by omega), if_neg (by omega), if_pos rfl]
    have a2 : pfI K b (nR K b) (mR K b) (cR K b) 4 x y z = cnI K b (nR K b) (mR K b) (cR K b) x y := by unfold pfI; rw [if_neg (by omega), if_neg (by omega), if_pos rfl]
    have a3 : doV M 4 = cmV (M 156) (nR K b) (mR K b) (cR K b) x y := by unfold doV; rw [if_neg (by omega), if_pos rfl, n3, n2, n0, ← hx (by omega) (by omega), ← hy (by omega)]
    have a4 : doI M 4 = cmI M (nR K b) (mR K b) (cR K b) x y := by unfold doI; rw [if_neg (by omega), if_pos rfl, n3, n2, n0, ← hx (by omega) (by omega), ← hy (by omega)]
    obtain ⟨g1, g2, g3⟩ := copy_G h e3 e2 e0 x y
    rw [a1, a2, a3, a4]
    refine ⟨g1, ?_, fun p => ?_, g3⟩
    · by_cases ok : (0 ≤ x ∧ x ≤ 7) ∧ (0 ≤ y ∧ y ≤ 7) ∧ x ≠ y
      · unfold cmV
        rw [if_neg (fun z => z ok)]
        split
        · rename_i z2
          have := (copy_R h.1 e3 e2 e0 x y ok).2 z2
          omega
        · omega
      · unfold cmV; rw [if_pos ok]; omega
    · obtain ⟨q1, q2, q3⟩ := g2 p
      unfold cmI
      rw [if_neg (fun z => z q1), if_pos q2, arS_at]
      exact q3
  · -- tick
    subst q
    have a1 : pfV K b (nR K b) (mR K b) (cR K b) 5 x y z = ltV K b (nR K b) x := by unfold pfV; rw [if_neg (by omega), if_neg (by omega), if_neg (by omega), if_pos rfl]
    have a2 : pfI K b (nR K b) (mR K b) (cR K b) 5 x y z = ltI K b (nR K b) x := by unfold pfI; rw [if_neg (by omega), if_neg (by omega), if_neg (by omega), if_pos rfl]
    have a3 : doV M 5 = mtV (M 156) (nR K b) (mR K b) (cR K b) x := by unfold doV; rw [if_neg (by omega), if_neg (by omega), if_pos rfl, n3, n2, n0, ← hx (by omega) (by omega)]
    have a4 : doI M 5 = mtI M (nR K b) (mR K b) (cR K b) x := by unfold doI; rw [if_neg (by omega), if_neg (by omega), if_pos rfl, n3, n2, n0, ← hx (by omega) (by omega)]
    obtain ⟨g1, g2, g3⟩ := tick_G h e3 e2 e0 x
    rw [a1, a2, a3, a4]
    refine ⟨g1, ?_, fun p => ?_, g3⟩
    · rw [← g1]
      have := tks_le K b (nR K b) x.toNat
      unfold ltV
      split
      · omega
      · split
        · omega
        · omega
    · obtain ⟨q1, q2, q3⟩ := g2 p
      unfold mtI
      rw [if_neg (fun z => z q1), if_neg q2, chB_6]
      exact q3
  · -- mark
    subst q
    have a1 : pfV K b (nR K b) (mR K b) (cR K b) 6 x y z = (if 3 ≤ mR K b then -3 else (mR K b : Int)) := by unfold pfV; rw [if_neg (by omega), if_neg (by omega), if_neg (by omega), if_neg (by omega), if_pos rfl]
    have a2 : pfI K b (nR K b) (mR K b) (cR K b) 6 x y z = amI K b (mR K b) := by unfold pfI; rw [if_neg (by omega), if_neg (by omega), if_neg (by omega), if_neg (by omega), if_pos rfl]
    have a3 : doV M 6 = mmV (mR K b) := by unfold doV; rw [if_neg (by omega), if_neg (by omega), if_neg (by omega), if_pos rfl, n2]
    have a4 : doI M 6 = mmI M (mR K b) := by unfold doI; rw [if_neg (by omega), if_neg (by omega), if_neg (by omega), if_pos rfl, n2]
    obtain ⟨g1, g2, g3⟩ := mark_G h e2 (by omega)
    rw [a1, a2, a3, a4]
    refine ⟨g1, ?_, fun p => ?_, g3⟩
    · unfold mmV
      split <;> omega
    · unfold mmI
      rw [if_neg (g2 p).1, chB_6]
      exact (g2 p).2
  · -- keep
    subst q
    have a1 : pfV K b (nR K b) (mR K b) (cR K b) 7 x y z = (if mR K b = 0 then -2 else ((mR K b - 1 : Nat) : Int)) := by unfold pfV; rw [if_neg (by omega), if_neg (by omega), if_neg (by omega), if_neg (by omega), if_neg (by omega), if_pos rfl]
    have a2 : pfI K b (nR K b) (mR K b) (cR K b) 7 x y z = dfI K b (nR K b) (mR K b) := by unfold pfI; rw [if_neg (by omega), if_neg (by omega), if_neg (by omega), if_neg (by omega), if_neg (by omega), if_pos rfl]
    have a3 : doV M 7 = kpV (mR K b) := by unfold doV; rw [if_neg (by omega), if_neg (by omega), if_neg (by omega), if_neg (by omega), if_pos rfl, n2]
    have a4 : doI M 7 = kpI M (nR K b) (mR K b) (cR K b) := by unfold doI; rw [if_neg (by omega), if_neg (by omega), if_neg (by omega), if_neg (by omega), if_pos rfl, n3, n2, n0]
    obtain ⟨g1, g2, g3⟩ := keep_G h e3 e2 e0
    rw [a1, a2, a3, a4]
    refine ⟨g1, ?_, fun p => ?_, g3⟩
    · unfold kpV
      split <;> omega
    · unfold kpI
      rw [if_neg (g2 p).1, chB_6]
      exact (g2 p).2
  · -- back
    subst q
    have a1 : pfV K b (nR K b) (mR K b) (cR K b) 8 x y z = gbV K b (nR K b) (mR K b) x := by unfold pfV; rw [if_neg (by omega), if_neg (by omega), if_neg (by omega), if_neg (by omega), if_neg (by omega), if_neg (by omega), if_pos rfl]
    have a2 : pfI K b (nR K b) (mR K b) (cR K b) 8 x y z = gbI K b (nR K b) (mR K b) x := by unfold pfI; rw [if_neg (by omega), if_neg (by omega), if_neg (by omega), if_neg (by omega), if_neg (by omega), if_neg (by omega), if_pos rfl]
    have a3 : doV M 8 = bkV (M 156) (nR K b) (mR K b) x := by unfold doV; rw [if_neg (by omega), if_neg (by omega), if_neg (by omega), if_neg (by omega), if_neg (by omega), if_pos rfl, n3, n2, ← hx (by omega) (by omega)]
    have a4 : doI M 8 = bkI M (nR K b) (mR K b) (cR K b) x := by unfold doI; rw [if_neg (by omega), if_neg (by omega), if_neg (by omega), if_neg (by omega), if_neg (by omega), if_pos rfl, n3, n2, n0, ← hx (by omega) (by omega)]
    obtain ⟨g1, g2, g3⟩ := back_G h e3 e2 e0 x
    rw [a1, a2, a3, a4]
    refine ⟨g1, ?_, fun p => ?_, g3⟩
    · rw [← g1]
      have d := (dropF_at (f := K (b + 14)) (y := x) (nR K b)).1
      unfold gbV
      split
      · omega
      · omega
    · unfold bkI
      rw [if_pos (g2 p).1, chB_6]
      exact (g2 p).2
