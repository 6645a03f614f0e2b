/-! ===== the mathematics: what is asked, what would be, step by step ===== -/
theorem lcZ_ok {s l : Int → Int} {n nc : Nat} (hV : vOK s) (hl : lOK l) (hc : nc ≤ 7) : lOK (lcT s l n nc) := by
  have a : ∀ j : Nat, j ≤ nc → lOK (lcA s l j) := by
    intro j
    induction j with
    | zero => intro _; exact hl
    | succ j ih =>
      intro hj c c0 c1
      rw [lcA]
      by_cases q : c = (j : Int)
      · rw [q, fset_at]; exact hV j (by omega) (by omega)
      · rw [fset_ne _ _ q]; exact ih (by omega) c c0 c1
  have o : ∀ k : Nat, lOK (lcO s (lcA s l nc) k) := by
    intro k
    induction k with
    | zero => exact a nc (Nat.le_refl _)
    | succ k ih =>
      intro c c0 c1
      rw [lcO]
      by_cases q : c = s (111 + 7 * (k : Int) + 1)
      · rw [q, fset_at]; exact res_rg _
      · rw [fset_ne _ _ q]; exact ih c c0 c1
  exact o n
section AS
variable {n : Nat} {I : mIt} {P : mPt} {r t : Nat} {h : Int → Nat}
theorem stp_keep {K : mIt} {m5 m6 : mD} {as : List (Nat × mV)} {v : Int} (hA : RmA r t h) (hW : PW P) (hR : PR P r t h) (hL : LI (1000 * n) I r h)
    (w5 : ∀ k, WP (k + 11) m5 none (0, 0) (Rt (some (.inl v)) (lay0, K, P)) 0 ((0, .inr (some 0)) :: as) [] (lay0, I, P)) (hK : ∀ x : Nat, x < t ∨ t + 25 ≤ x → K x = I x)
    (w6 : (∀ x : Nat, 155 ≤ x → K x = I x) → ∃ J : mIt, (∀ k, WP (k + 11) m6 none (0, 0) (Rt (some (.inl v)) (lay0, J, P)) 0 ((0, .inr (some 155)) :: as) [] (lay0, K, P)) ∧ FailJ K J) : lwStp m5 m6 as (LW (n + 1)) I P := by
  have ht := hA.2.1
  have hi : ∀ x : Nat, 155 ≤ x → K x = I x := fun x hx => hK x (RmB_far ht (by omega))
  obtain ⟨J, w6', j1, j2, j3, j4, j5, j6⟩ := w6 hi
  refine ⟨v, K, P, J, w5, w6', r, t, h, hA, hW, hR, ?_⟩
  have hM : (1000 * ((n + 1 : Nat) : Int)) = 1000 * (n : Int) + 1000 := by omega
  rw [hM]
  exact LI_keep hA hL (by omega) (fun x h1 h2 _ _ _ => by rw [j1 x h2, hK x h1]) (by rw [j1 0 (by omega), hK 0 (RmB_far ht (by omega))]) (by rw [j1 52 (by omega), hK 52 (RmB_far ht (by omega))]) (fun i a b => by rw [j3 i a b, hi 156 (by omega)]) (by rw [j2.1, j2.2.1, j2.2.2, hi 155 (by omega)]; exact ⟨rfl, rfl, rfl⟩) (fun i _ _ => by rw [j4, hi 157 (by omega)]) (by rw [j5, hi 160 (by omega)]) (by rw [j6, hi 161 (by omega)]; exact hL.2.2.2.2.2)
theorem st_markOf (hn : n < 512) (hA : RmA r t h) (hW : PW P) (hR : PR P r t h) (hL : LI (1000 * n) I r h) (m nm w : Int) : lwStp mX5_markOf mX6_markOf [(1, .inl m), (2, .inl nm), (3, .inl w)] (LW (n + 1)) I P := by
  obtain ⟨ro, e3, e2, e0⟩ := RoOK_of hL.1 (by omega)
  have m2 := hL.1.1.1.1.2.2.1
  refine stp_keep (K := I) (v := tmV I r m nm w) hA hW hR hL (fun k => Fn_X5_markOf (k + 8) I P r t h (cn_of hA hW hR) ro m nm w) (fun _ _ => rfl) (fun _ => ⟨I, fun k => ?_, fail_same I⟩)
  rw [markOf_R hL.1.1 e2 m nm w]
  exact Fn_X6_markOf (k + 6) I P hW.2.1 (mR I r) e2 (by omega) m nm w
theorem st_chairOf (hn : n < 512) (hA : RmA r t h) (hW : PW P) (hR : PR P r t h) (hL : LI (1000 * n) I r h) (c w : Int) : lwStp mX5_chairOf mX6_chairOf [(1, .inl c), (2, .inl w)] (LW (n + 1)) I P := by
  obtain ⟨ro, e3, e2, e0⟩ := RoOK_of hL.1 (by omega)
  have h7 := hL.1.1.1.1
  unfold IvH at h7
  refine stp_keep (K := I) (v := tcV I r (nR I r) (mR I r) (cR I r) c w) hA hW hR hL (fun k => Fn_X5_chairOf (k + 8) I P r t h (cn_of hA hW hR) ro c w) (fun _ _ => rfl) (fun _ => ⟨I, fun k => ?_, fail_same I⟩)
  rw [chairOf_R hL.1.1 e3 e2 e0 c w]
  exact Fn_X6_chairOf (k + 8) I P hW.2.1 (nR I r) e3 (by omega) (mR I r) e2 (by omega) (cR I r) e0 (by omega) c w
theorem st_orderOf (hn : n < 512) (hA : RmA r t h) (hW : PW P) (hR : PR P r t h) (hL : LI (1000 * n) I r h) (x w : Int) : lwStp mX5_orderOf mX6_orderOf [(1, .inl x), (2, .inl w)] (LW (n + 1)) I P := by
  obtain ⟨ro, e3, e2, e0⟩ := RoOK_of hL.1 (by omega)
  obtain ⟨m5, m6, m1, m10, m7, m4, m8, m9, mst, moO, mvO, mmk, mdu, m2, mn6, m0⟩ := mo_of hL.1 (by omega) e3
  have t1 := hL.1.1.1.2.2.2.2.2.2.2.1.2.1
  have hRg := hL.1.1.1.2.2.2.2.2.2.2.2.2.2.2.2.2
  refine stp_keep (K := I) (v := toV I r x w) hA hW hR hL (fun k => Fn_X5_orderOf (k + 8) I P r t h (cn_of hA hW hR) ro (by omega) (fun c => ?_) x w) (fun _ _ => rfl) (fun _ => ⟨I, fun k => ?_, fail_same I⟩)
  · unfold kOf
    split
    · rename_i q
      have := hRg c q.1 q.2; omega
    · omega
  · rw [orderOf_R hL.1.1 e3 x w]
    exact Fn_X6_orderOf (k + 7) I P hW.2.1 (nR I r) e3 (by omega) (by omega) mdu x w
theorem st_count (hn : n < 512) (hA : RmA r t h) (hW : PW P) (hR : PR P r t h) (hL : LI (1000 * n) I r h) (w : Int) : lwStp mX5_count mX6_count [(1, .inl w)] (LW (n + 1)) I P := by
  obtain ⟨ro, e3, e2, e0⟩ := RoOK_of hL.1 (by omega)
  have h7 := hL.1.1.1.1
  unfold IvH at h7
  refine stp_keep (K := I) (v := coV (I 156) (nR I r) (cR I r) (I 155 4) (I 155 7) w) hA hW hR hL (fun k => ?_) (fun _ _ => rfl) (fun _ => ⟨I, fun k => Fn_X6_count (k + 9) I P hW.2.1 (nR I r) e3 (by omega) (cR I r) e0 (by omega) w, fail_same I⟩)
  have := Fn_X5_count (k + 7) I P r t h (cn_of hA hW hR) ro (tkn_rg hL.1.1 e3 e2) w
  have e : (if w = 10 then I 0 3 else if w = 11 then I 52 1 else tuV I r (nR I r) (mR I r) (cR I r) w) = coV (I 156) (nR I r) (cR I r) (I 155 4) (I 155 7) w := by
    by_cases q : w = 10
    · subst q; rw [if_pos rfl]; exact hL.2.1.2.2.symm
    · by_cases q2 : w = 11
      · subst q2; rw [if_neg q, if_pos rfl]; exact hL.2.2.2.1.2.1.symm
      · rw [if_neg q, if_neg q2]; exact count_R hL.1.1 e3 e2 e0 _ _ w q q2
  rw [e] at this
  exact this
theorem st_nameOf (hn : n < 512) (hA : RmA r t h) (hW : PW P) (hR : PR P r t h) (hL : LI (1000 * n) I r h) (nm w : Int) : lwStp mX5_nameOf mX6_nameOf [(1, .inl nm), (2, .inl w)] (LW (n + 1)) I P := by
  obtain ⟨ro, e3, e2, e0⟩ := RoOK_of hL.1 (by omega)
  obtain ⟨m5, m6, m1, m10, m7, m4, m8, m9, mst, moO, mvO, mmk, mdu, m2, mn6, m0⟩ := mo_of hL.1 (by omega) e3
  have hM : (1000 * ((n + 1 : Nat) : Int)) = 1000 * (n : Int) + 1000 := by omega
  refine ⟨tnV I r nm w, I, P, nmI I (nR I r) (cR I r) nm w, fun k => Fn_X5_nameOf (k + 7) I P r t h (cn_of hA hW hR) ro nm w, fun k => ?_, r, t, h, hA, hW, hR, ?_⟩
  · rw [nameOf_R (l := I 161) hL.1.1 e3 e0 nm w]
    exact Fn_X6_nameOf (k + 9) I P hW.2.1 (nR I r) e3 (by omega) (cR I r) e0 (by omega) moO mvO hL.2.2.2.2.2 mst nm w
  · rw [hM]
    have e : ∀ x : Nat, x ≠ 161 → nmI I (nR I r) (cR I r) nm w x = I x := fun x hx => by
      unfold nmI; split
      · rw [arS_ne _ _ hx]
      · rfl
    refine LI_keep hA hL (by omega) (fun x h1 h2 _ _ _ => e x (by omega)) (by rw [e 0 (by omega)]) (by rw [e 52 (by omega)]) (fun i _ _ => by rw [e 156 (by omega)]) (by rw [e 155 (by omega)]; exact ⟨rfl, rfl, rfl⟩) (fun i _ _ => by rw [e 157 (by omega)]) (e 160 (by omega)) ?_
    unfold nmI; split
    · rw [arS_at]; exact lcZ_ok mvO hL.2.2.2.2.2 (by omega)
    · exact hL.2.2.2.2.2
theorem rs_fail (I : mIt) (f : Int → Int) : FailJ I (rsB I f) := by
  unfold rsB
  exact md_fail (fun i a b => by rw [cpZ_in a b, cpZ_in a b])
theorem go3 (I : mIt) (b n mc nc : Nat) (what name one other : Int) : I b 3 ≤ goM I b n mc nc what name one other b 3 ∧ goM I b n mc nc what name one other b 3 ≤ I b 3 + 3 := by
  have g34 := go_34 I b n mc nc name one other
  have d3 := seatI_3 (goC I b n mc nc name one other) b n mc nc name (goX I b n mc nc what name one other) 1000000 one other
  change goC I b n mc nc name one other b 3 ≤ goD I b n mc nc what name one other b 3 ∧ goD I b n mc nc what name one other b 3 ≤ goC I b n mc nc name one other b 3 + 1 at d3
  unfold goM
  split
  · omega
  · split
    · omega
    · split
      · omega
      · split
        · omega
        · split
          · omega
          · unfold goE
            rw [oAdd_no _ _ _ _ _ _ (by omega), vUse_no _ _ _ (by omega), vUse_no _ _ _ (by omega)]
            omega
theorem st_sends (hn : n < 512) (hA : RmA r t h) (hW : PW P) (hR : PR P r t h) (hL : LI (1000 * n) I r h) (nm x y : Int) : lwStp mX5_sends mX6_sends [(1, .inl nm), (2, .inl x), (3, .inl y)] (LW (n + 1)) I P := by
  obtain ⟨gs, fr⟩ := spare_G hA hL
  obtain ⟨ro, e3, e2, e0⟩ := RoOK_of gs (by omega)
  have ht := hA.2.1
  obtain ⟨g1, g2, g3⟩ := order_G gs e3 e2 e0 0 nm x y
  have hK : ∀ z : Nat, z < t ∨ t + 25 ≤ z → goM (rbI I t r) t (nR (rbI I t r) t) (mR (rbI I t r) t) (cR (rbI I t r) t) 0 nm x y z = I z := fun z hz => by rw [g3 z hz, fr z hz]
  have hq := hL.2.1
  obtain ⟨m5, m6, m1, m10, m7, m4, m8, m9, mst, moO, mvO, mmk, mdu, m2, mn6, m0⟩ := mo_of gs (by omega) e3
  have rt := RmB_d hA.1 ht hA.2.2.1
  have kr : goM (rbI I t r) t (nR (rbI I t r) t) (mR (rbI I t r) t) (cR (rbI I t r) t) 0 nm x y r = I r := hK r (by omega)
  have s5 : rbI I t r t 3 = I 156 5 := gs.1.1.2.2.2.2.2.2.2.1.2.2.1
  have r5 : I r 3 = I 156 5 := hL.1.1.1.2.2.2.2.2.2.2.1.2.2.1
  have b3 := go3 (rbI I t r) t (nR (rbI I t r) t) (mR (rbI I t r) t) (cR (rbI I t r) t) 0 nm x y
  have w5 := fun k => Fn_X5_sends (k + 7) I P r t h (cn_of hA hW hR) ro nm x y (by rw [kr]; unfold mI; omega)
  have val : (if goV (rbI I t r) t (nR (rbI I t r) t) (mR (rbI I t r) t) (cR (rbI I t r) t) 0 nm x y < 0 ∧ goV (rbI I t r) t (nR (rbI I t r) t) (mR (rbI I t r) t) (cR (rbI I t r) t) 0 nm x y ≠ -3 then goV (rbI I t r) t (nR (rbI I t r) t) (mR (rbI I t r) t) (cR (rbI I t r) t) 0 nm x y else goM (rbI I t r) t (nR (rbI I t r) t) (mR (rbI I t r) t) (cR (rbI I t r) t) 0 nm x y t 3 - goM (rbI I t r) t (nR (rbI I t r) t) (mR (rbI I t r) t) (cR (rbI I t r) t) 0 nm x y r 3) = seV (I 156) (nR (rbI I t r) t) (mR (rbI I t r) t) (cR (rbI I t r) t) nm x y := by
    rw [kr]
    unfold seV
    by_cases ok : (0 ≤ nm ∧ nm ≤ 7) ∧ (0 ≤ x ∧ x ≤ 7) ∧ (0 ≤ y ∧ y ≤ 7)
    · have o := (order_R gs.1 e3 e2 e0 0 nm x y ⟨⟨by omega, by omega⟩, ok⟩).1
      rw [if_neg (fun z => z ok : ¬ ¬ ((0 ≤ nm ∧ nm ≤ 7) ∧ (0 ≤ x ∧ x ≤ 7) ∧ (0 ≤ y ∧ y ≤ 7)))]
      rcases o with ⟨q1, q2⟩ | ⟨q1, q2, ⟨q3, q4⟩ | ⟨q3, q4, q5⟩⟩
      · rw [q1, q2]; rfl
      · rw [q4, q2, r5, if_neg (by omega), if_neg (by omega)]
      · rw [q4, q2, r5, if_neg (by omega), if_neg (by omega)]
    · have q : goV (rbI I t r) t (nR (rbI I t r) t) (mR (rbI I t r) t) (cR (rbI I t r) t) 0 nm x y = -1 := by unfold goV; rw [if_pos (fun z => ok z.2)]
      rw [q, if_pos ok]; rfl
  refine stp_keep (v := seV (I 156) (nR (rbI I t r) t) (mR (rbI I t r) t) (cR (rbI I t r) t) nm x y) hA hW hR hL (fun k => ?_) hK (fun hi => ?_)
  · have := w5 k
    rw [val] at this
    exact this
  · have e := hi 155 (by omega)
    have e6 := hi 156 (by omega)
    generalize goM (rbI I t r) t (nR (rbI I t r) t) (mR (rbI I t r) t) (cR (rbI I t r) t) 0 nm x y = K at *
    refine ⟨seI K (nR (rbI I t r) t) (mR (rbI I t r) t) (cR (rbI I t r) t) nm x y, fun k => ?_, ?_⟩
    · have := Fn_X6_sends (k + 4) K P hW.2.1 (nR (rbI I t r) t) (by rw [e6]; exact e3) (by omega) (mR (rbI I t r) t) (by rw [e6]; exact e2) (by omega) (cR (rbI I t r) t) (by rw [e6]; exact e0) (by omega) (by rw [e]; omega) (by rw [e6]; omega) (by rw [e6]; omega) (by rw [e6]; omega) (by rw [e6]; omega) (by rw [e6]; omega) (by rw [e6]; omega) (by rw [e6]; omega) (by rw [e6]; exact mst) nm x y (by
        rw [e6]
        intro z
        exact (order_R gs.1 e3 e2 e0 0 nm x y ⟨⟨by omega, by omega⟩, z⟩).2)
      rw [e6] at this
      exact this
    · unfold seI
      split
      · exact fail_same K
      · exact rs_fail K _
theorem st_idleIn (hn : n < 512) (hA : RmA r t h) (hW : PW P) (hR : PR P r t h) (hL : LI (1000 * n) I r h) : lwStp mX5_idleIn mX6_idleIn [] (LW (n + 1)) I P := by
  obtain ⟨gs, fr⟩ := spare_G hA hL
  obtain ⟨ro, e3, e2, e0⟩ := RoOK_of gs (by omega)
  have ht := hA.2.1
  have hq := hL.2.1
  obtain ⟨m5, m6, m1, m10, m7, m4, m8, m9, mst, moO, mvO, mmk, mdu, m2, mn6, m0⟩ := mo_of gs (by omega) e3
  obtain ⟨i1, i2, i3⟩ := idle_R gs.1 e3 e2 e0 (by omega)
  have hK : ∀ z : Nat, z < t ∨ t + 25 ≤ z → (tks (rbI I t r) t (nR (rbI I t r) t) (idV (rbI I t r) t (nR (rbI I t r) t))).1 z = I z := fun z hz => by rw [tks_ne _ _ _ (by omega) (by omega) (by omega), fr z hz]
  refine stp_keep (v := ((idV (rbI I t r) t (nR (rbI I t r) t) : Nat) : Int)) hA hW hR hL (fun k => Fn_X5_idleIn (k + 7) I P r t h (cn_of hA hW hR) ro) hK (fun hi => ?_)
  have e := hi 155 (by omega)
  have e6 := hi 156 (by omega)
  generalize (tks (rbI I t r) t (nR (rbI I t r) t) (idV (rbI I t r) t (nR (rbI I t r) t))).1 = K at *
  refine ⟨idI K (nR (rbI I t r) t) (mR (rbI I t r) t) (cR (rbI I t r) t) (idV (rbI I t r) t (nR (rbI I t r) t)), fun k => ?_, rs_fail K _⟩
  exact Fn_X6_idleIn (k + 6) K P hW.2.1 (nR (rbI I t r) t) (by rw [e6]; exact e3) (by omega) (mR (rbI I t r) t) (by rw [e6]; exact e2) (by omega) (cR (rbI I t r) t) (by rw [e6]; exact e0) (by omega) (by rw [e6]; exact moO) (by rw [e6]; exact mvO) (by rw [e6]; omega) (by rw [e6]; omega) (by rw [e6]; omega) (by rw [e6]; omega) _ (by omega) (by rw [e6]; exact i2) (by rw [e6]; exact i3)
theorem st_knownIn (hn : n < 512) (hA : RmA r t h) (hW : PW P) (hR : PR P r t h) (hL : LI (1000 * n) I r h) (nm : Int) : lwStp mX5_knownIn mX6_knownIn [(1, .inl nm)] (LW (n + 1)) I P := by
  obtain ⟨gs, fr⟩ := spare_G hA hL
  obtain ⟨ro, e3, e2, e0⟩ := RoOK_of gs (by omega)
  have ht := hA.2.1
  have hq := hL.2.1
  obtain ⟨m5, m6, m1, m10, m7, m4, m8, m9, mst, moO, mvO, mmk, mdu, m2, mn6, m0⟩ := mo_of gs (by omega) e3
  have hK : ∀ z : Nat, z < t ∨ t + 25 ≤ z → (if 0 ≤ nm ∧ nm ≤ 7 then (tks (rbI I t r) t (nR (rbI I t r) t) (knV (rbI I t r) t (nR (rbI I t r) t) nm)).1 else I) z = I z := fun z hz => by
    split
    · rw [tks_ne _ _ _ (by omega) (by omega) (by omega), fr z hz]
    · rfl
  refine stp_keep (v := if 0 ≤ nm ∧ nm ≤ 7 then ((knV (rbI I t r) t (nR (rbI I t r) t) nm : Nat) : Int) else -1) hA hW hR hL (fun k => Fn_X5_knownIn (k + 7) I P r t h (cn_of hA hW hR) ro nm) hK (fun hi => ?_)
  have e := hi 155 (by omega)
  have e6 := hi 156 (by omega)
  generalize (if 0 ≤ nm ∧ nm ≤ 7 then (tks (rbI I t r) t (nR (rbI I t r) t) (knV (rbI I t r) t (nR (rbI I t r) t) nm)).1 else I) = K at *
  by_cases q : 0 ≤ nm ∧ nm ≤ 7
  · obtain ⟨i1, i2, i3⟩ := known_R (name := nm) gs.1 e3 e2 e0 (by omega) q.1 q.2
    rw [if_pos q]
    refine ⟨kiI K (nR (rbI I t r) t) (mR (rbI I t r) t) (cR (rbI I t r) t) nm (knV (rbI I t r) t (nR (rbI I t r) t) nm), fun k => ?_, ?_⟩
    · have := Fn_X6_knownIn (k + 6) K P hW.2.1 (nR (rbI I t r) t) (by rw [e6]; exact e3) (by omega) (mR (rbI I t r) t) (by rw [e6]; exact e2) (by omega) (cR (rbI I t r) t) (by rw [e6]; exact e0) (by omega) (by rw [e6]; exact moO) (by rw [e6]; exact mvO) (by rw [e6]; omega) (by rw [e6]; omega) (by rw [e6]; omega) (by rw [e6]; omega) (by rw [e6]; exact mst) nm (knV (rbI I t r) t (nR (rbI I t r) t) nm) (by omega) (fun _ => by rw [e6]; exact i2) (fun _ => by rw [e6]; exact i3)
      unfold kiV at this
      rw [if_pos q] at this
      exact this
    · unfold kiI; rw [if_pos q]; exact rs_fail K _
  · rw [if_neg q]
    -- not a name: no ticks
    refine ⟨kiI K (nR (rbI I t r) t) (mR (rbI I t r) t) (cR (rbI I t r) t) nm 0, fun k => ?_, ?_⟩
    · have := Fn_X6_knownIn (k + 6) K P hW.2.1 (nR (rbI I t r) t) (by rw [e6]; exact e3) (by omega) (mR (rbI I t r) t) (by rw [e6]; exact e2) (by omega) (cR (rbI I t r) t) (by rw [e6]; exact e0) (by omega) (by rw [e6]; exact moO) (by rw [e6]; exact mvO) (by rw [e6]; omega) (by rw [e6]; omega) (by rw [e6]; omega) (by rw [e6]; omega) (by rw [e6]; exact mst) nm 0 (by omega) (fun z => absurd z q) (fun z => absurd z q)
      unfold kiV at this
      rw [if_neg q] at this
      exact this
    · unfold kiI; rw [if_neg q]; exact fail_same K
end AS
