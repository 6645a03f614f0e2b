/-! ===== the mathematics: the nine calls that change, step by step ===== -/
section CH
variable {n : Nat} {I : mIt} {P : mPt} {r t : Nat} {h : Int → Nat}
theorem st_begin (hn : n < 512) (hA : RmA r t h) (hW : PW P) (hR : PR P r t h) (hL : LI (1000 * n) I r h) (c : Int) : lwStp mX5_begin mX6_begin [(1, .inl c)] (LW (n + 1)) I P := by
  obtain ⟨gs, fr⟩ := spare_G hA hL
  have ro := (RoOK_of gs (by omega)).1
  obtain ⟨b1, b2, b3⟩ := begin_G gs c
  have ht := hA.2.1
  have hK : ∀ x : Nat, x < t ∨ t + 25 ≤ x → (if 3 ≤ c ∧ c ≤ 7 then emI (rbI I t r) t c else rbI I t r) x = I x := fun x hx => by
    split
    · rw [b3 x hx, fr x hx]
    · exact fr x hx
  have q0 : (if 3 ≤ c ∧ c ≤ 7 then emI (rbI I t r) t c else rbI I t r) 0 3 = I 0 3 := by rw [hK 0 (RmB_far ht (by omega))]
  have hq := hL.2.1
  refine stp_change (v := if 3 ≤ c ∧ c ≤ 7 then rbI I t r t 0 else -1) (row := clS (I 156) c) hA hW hR hL (fun k => Fn_X5_begin (k + 8) I P r t h (cn_of hA hW hR) ro c (by omega)) hK (fun v0 => ?_) (fun I1 P1 hP1 hi => ?_)
  · by_cases q : 3 ≤ c ∧ c ≤ 7
    · rw [if_pos q]; exact GS_le (b1 q) (by omega)
    · rw [if_neg q] at v0; omega
  · have e := hi 155 (by omega)
    have e6 := hi 156 (by omega)
    refine ⟨bgI I1 c, fun k => ?_, fun v0 => ?_, fun v0 => ?_⟩
    · have := Fn_X6_begin (k + 9) I1 P1 hP1.2.1 (by rw [e]; omega) c
      rw [e6] at this
      rw [b2]; exact this
    · have q : ¬ (3 ≤ c ∧ c ≤ 7) := fun z => by
        have := gs.1.1.1.1
        rw [if_pos z, b2] at v0; omega
      unfold bgI; rw [if_neg q]; exact fail_same I1
    · have q : 3 ≤ c ∧ c ≤ 7 := Classical.byContradiction (fun z => by rw [if_neg z] at v0; omega)
      unfold bgI; rw [if_pos q, e6]
      have := md_succ (I := I1) (t := I1 159) (row := clS (I 156) c) (old := I 156) (by rw [e]; exact hL.2.2.2.2.1) (fun i _ _ => by rw [e6])
      exact this
theorem st_put (hn : n < 512) (hA : RmA r t h) (hW : PW P) (hR : PR P r t h) (hL : LI (1000 * n) I r h) (nm v : Int) : lwStp mX5_put mX6_put [(1, .inl nm), (2, .inl v)] (LW (n + 1)) I P := by
  obtain ⟨gs, fr⟩ := spare_G hA hL
  obtain ⟨ro, e3, e2, e0⟩ := RoOK_of gs (by omega)
  have ht := hA.2.1
  obtain ⟨g1, g2, g3⟩ := put_G gs e3 e2 e0 nm v
  have hK : ∀ x : Nat, x < t ∨ t + 25 ≤ x → pvI (rbI I t r) t (nR (rbI I t r) t) (mR (rbI I t r) t) (cR (rbI I t r) t) nm v x = I x := fun x hx => by rw [g3 x hx, fr x hx]
  have q0 : pvI (rbI I t r) t (nR (rbI I t r) t) (mR (rbI I t r) t) (cR (rbI I t r) t) nm v 0 3 = I 0 3 := by rw [hK 0 (RmB_far ht (by omega))]
  have hq := hL.2.1
  obtain ⟨m5, m6, m1, m10, m7, m4, m8, m9, mst, moO, mvO, mmk, mdu, m2, mn6, m0⟩ := mo_of gs (by omega) e3
  refine stp_change (v := pvV (rbI I t r) t (nR (rbI I t r) t) (mR (rbI I t r) t) (cR (rbI I t r) t) nm v) (row := ikS (pmX (I 156) (nR (rbI I t r) t) (mR (rbI I t r) t) (cR (rbI I t r) t) nm) (pmC (I 156) (nR (rbI I t r) t) (mR (rbI I t r) t) (cR (rbI I t r) t) nm) v) hA hW hR hL (fun k => Fn_X5_put (k + 8) I P r t h (cn_of hA hW hR) ro nm v (by omega)) hK (fun v0 => ?_) (fun I1 P1 hP1 hi => ?_)
  · rw [g1] at v0; exact GS_le (g2 v0).2.2 (by omega)
  · have e := hi 155 (by omega)
    have e6 := hi 156 (by omega)
    rw [g1]
    refine ⟨pmI I1 (nR (rbI I t r) t) (mR (rbI I t r) t) (cR (rbI I t r) t) nm v, fun k => ?_, fun v0 => ?_, fun v0 => ?_⟩
    · have := Fn_X6_put (k + 6) I1 P1 hP1.2.1 (nR (rbI I t r) t) (by rw [e6]; exact e3) (by omega) (mR (rbI I t r) t) (by rw [e6]; exact e2) (by omega) (cR (rbI I t r) t) (by rw [e6]; exact e0) (by omega) (by rw [e]; omega) (by rw [e6]; omega) (by rw [e6]; omega) (by rw [e6]; omega) (by rw [e6]; omega) (by rw [e6]; omega) nm v
      rw [e6] at this
      exact this
    · unfold pmI
      rw [e6]
      split
      · exact fail_same I1
      · split
        · exact md_fail (fun i a b => by rw [cpZ_in a b]; unfold tr1; rw [cpZ_in a b])
        · rename_i z1 z2
          unfold pmV at v0; rw [if_neg z1, if_neg z2] at v0; omega
    · obtain ⟨q1, q2, _⟩ := g2 v0
      unfold pmI
      rw [e6, if_neg (fun z => z q1), if_neg q2]
      exact md_succ (by rw [e]; exact hL.2.2.2.2.1) (fun i a b => by unfold tr1; rw [cpZ_in a b])
theorem st_copy (hn : n < 512) (hA : RmA r t h) (hW : PW P) (hR : PR P r t h) (hL : LI (1000 * n) I r h) (nm f : Int) : lwStp mX5_copy mX6_copy [(1, .inl nm), (2, .inl f)] (LW (n + 1)) I P := by
  obtain ⟨gs, fr⟩ := spare_G hA hL
  obtain ⟨ro, e3, e2, e0⟩ := RoOK_of gs (by omega)
  have ht := hA.2.1
  obtain ⟨g1, g2, g3⟩ := copy_G gs e3 e2 e0 nm f
  have hK : ∀ x : Nat, x < t ∨ t + 25 ≤ x → cnI (rbI I t r) t (nR (rbI I t r) t) (mR (rbI I t r) t) (cR (rbI I t r) t) nm f x = I x := fun x hx => by rw [g3 x hx, fr x hx]
  have q0 : cnI (rbI I t r) t (nR (rbI I t r) t) (mR (rbI I t r) t) (cR (rbI I t r) t) nm f 0 3 = I 0 3 := by rw [hK 0 (RmB_far ht (by omega))]
  have hq := hL.2.1
  obtain ⟨m5, m6, m1, m10, m7, m4, m8, m9, mst, moO, mvO, mmk, mdu, m2, mn6, m0⟩ := mo_of gs (by omega) e3
  refine stp_change (v := cnV (rbI I t r) t (nR (rbI I t r) t) (mR (rbI I t r) t) (cR (rbI I t r) t) nm f) (row := cmX (I 156) (nR (rbI I t r) t) (mR (rbI I t r) t) (cR (rbI I t r) t) nm f) hA hW hR hL (fun k => Fn_X5_copy (k + 7) I P r t h (cn_of hA hW hR) ro nm f (by omega)) hK (fun v0 => ?_) (fun I1 P1 hP1 hi => ?_)
  · rw [g1] at v0; exact GS_le (g2 v0).2.2 (by omega)
  · have e := hi 155 (by omega)
    have e6 := hi 156 (by omega)
    rw [g1]
    refine ⟨cmI I1 (nR (rbI I t r) t) (mR (rbI I t r) t) (cR (rbI I t r) t) nm f, fun k => ?_, fun v0 => ?_, fun v0 => ?_⟩
    · have := Fn_X6_copy (k + 5) I1 P1 hP1.2.1 (nR (rbI I t r) t) (by rw [e6]; exact e3) (by omega) (mR (rbI I t r) t) (by rw [e6]; exact e2) (by omega) (cR (rbI I t r) t) (by rw [e6]; exact e0) (by omega) (by rw [e]; omega) (by rw [e6]; omega) (by rw [e6]; omega) (by rw [e6]; omega) (by rw [e6]; omega) (by rw [e6]; omega) (by rw [e6]; exact mst) nm f
      rw [e6] at this
      exact this
    · unfold cmI
      rw [e6]
      split
      · exact fail_same I1
      · split
        · rename_i z1 z2
          unfold cmV at v0; rw [if_neg z1, if_pos z2] at v0
          have z1' : (0 ≤ nm ∧ nm ≤ 7) ∧ (0 ≤ f ∧ f ≤ 7) ∧ nm ≠ f := Classical.byContradiction z1
          have := (copy_R gs.1 e3 e2 e0 nm f z1').2 z2
          omega
        · exact md_fail (fun i a b => by rw [cpZ_in a b]; unfold tr1; rw [cpZ_in a b])
    · obtain ⟨q1, q2, _⟩ := g2 v0
      unfold cmI
      rw [e6, if_neg (fun z => z q1), if_pos q2]
      exact md_succ (by rw [e]; exact hL.2.2.2.2.1) (fun i a b => by unfold tr1; rw [cpZ_in a b])
theorem st_order (hn : n < 512) (hA : RmA r t h) (hW : PW P) (hR : PR P r t h) (hL : LI (1000 * n) I r h) (w nm x y : Int) : lwStp mX5_order mX6_order [(1, .inl w), (2, .inl nm), (3, .inl x), (4, .inl y)] (LW (n + 1)) I P := by
  obtain ⟨gs, fr⟩ := spare_G hA hL
  obtain ⟨ro, e3, e2, e0⟩ := RoOK_of gs (by omega)
  have ht := hA.2.1
  obtain ⟨g1, g2, g3⟩ := order_G gs e3 e2 e0 w nm x y
  have hK : ∀ z : Nat, z < t ∨ t + 25 ≤ z → goM (rbI I t r) t (nR (rbI I t r) t) (mR (rbI I t r) t) (cR (rbI I t r) t) w nm x y z = I z := fun z hz => by rw [g3 z hz, fr z hz]
  have q0 : goM (rbI I t r) t (nR (rbI I t r) t) (mR (rbI I t r) t) (cR (rbI I t r) t) w nm x y 0 3 = I 0 3 := by rw [hK 0 (RmB_far ht (by omega))]
  have hq := hL.2.1
  obtain ⟨m5, m6, m1, m10, m7, m4, m8, m9, mst, moO, mvO, mmk, mdu, m2, mn6, m0⟩ := mo_of gs (by omega) e3
  refine stp_change (v := goV (rbI I t r) t (nR (rbI I t r) t) (mR (rbI I t r) t) (cR (rbI I t r) t) w nm x y) (row := omX (I 156) (nR (rbI I t r) t) (mR (rbI I t r) t) (cR (rbI I t r) t) w nm x y) hA hW hR hL (fun k => Fn_X5_order (k + 7) I P r t h (cn_of hA hW hR) ro w nm x y (by omega)) hK (fun v0 => ?_) (fun I1 P1 hP1 hi => ?_)
  · rw [g1] at v0; exact GS_le (g2 v0).2.2 (by omega)
  · have e := hi 155 (by omega)
    have e6 := hi 156 (by omega)
    rw [g1]
    refine ⟨omI I1 (nR (rbI I t r) t) (mR (rbI I t r) t) (cR (rbI I t r) t) w nm x y, fun k => ?_, fun v0 => ?_, fun v0 => ?_⟩
    · have := Fn_X6_order (k + 4) I1 P1 hP1.2.1 (nR (rbI I t r) t) (by rw [e6]; exact e3) (by omega) (mR (rbI I t r) t) (by rw [e6]; exact e2) (by omega) (cR (rbI I t r) t) (by rw [e6]; exact e0) (by omega) (by rw [e]; omega) (by rw [e6]; omega) (by rw [e6]; omega) (by rw [e6]; omega) (by rw [e6]; omega) (by rw [e6]; omega) (by rw [e6]; omega) (by rw [e6]; omega) (by rw [e6]; exact mst) w nm x y (by
        rw [e6]
        intro z
        exact (order_R gs.1 e3 e2 e0 0 nm x y ⟨⟨by omega, by omega⟩, z⟩).2)
      rw [e6] at this
      exact this
    · unfold omI
      rw [e6]
      split
      · exact fail_same I1
      · split
        · exact md_fail (fun i a b => by rw [cpZ_in a b]; unfold tr1; rw [cpZ_in a b])
        · rename_i z1 z2
          unfold omV at v0; rw [if_neg z1, if_neg (fun z => z2 (Or.inl z)), if_neg (fun z => z2 (Or.inr z))] at v0; omega
    · obtain ⟨q1, q2, _⟩ := g2 v0
      unfold omI
      rw [e6, if_neg (fun z => z q1), if_neg q2]
      exact md_succ (by rw [e]; exact hL.2.2.2.2.1) (fun i a b => by unfold tr1; rw [cpZ_in a b])
theorem ch_succ {I1 : mIt} {row : Int → Int} (h5 : I1 155 5 = 0) : SuccJ I1 (chB I1 row) row := by
  unfold chB; exact md_succ h5 (fun _ _ _ => rfl)
theorem st_tick (hn : n < 512) (hA : RmA r t h) (hW : PW P) (hR : PR P r t h) (hL : LI (1000 * n) I r h) (c : Int) : lwStp mX5_tick mX6_tick [(1, .inl c)] (LW (n + 1)) I P := by
  obtain ⟨gs, fr⟩ := spare_G hA hL
  obtain ⟨ro, e3, e2, e0⟩ := RoOK_of gs (by omega)
  have ht := hA.2.1
  obtain ⟨g1, g2, g3⟩ := tick_G gs e3 e2 e0 c
  have hK : ∀ z : Nat, z < t ∨ t + 25 ≤ z → ltI (rbI I t r) t (nR (rbI I t r) t) c z = I z := fun z hz => by rw [g3 z hz, fr z hz]
  have q0 : ltI (rbI I t r) t (nR (rbI I t r) t) c 0 3 = I 0 3 := by rw [hK 0 (RmB_far ht (by omega))]
  have hq := hL.2.1
  obtain ⟨m5, m6, m1, m10, m7, m4, m8, m9, mst, moO, mvO, mmk, mdu, m2, mn6, m0⟩ := mo_of gs (by omega) e3
  refine stp_change (v := ltV (rbI I t r) t (nR (rbI I t r) t) c) (row := (tkM (I 156) (nR (rbI I t r) t) (mR (rbI I t r) t) (cR (rbI I t r) t) c.toNat).1) hA hW hR hL (fun k => Fn_X5_tick (k + 7) I P r t h (cn_of hA hW hR) ro c (by omega)) hK (fun v0 => ?_) (fun I1 P1 hP1 hi => ?_)
  · rw [g1] at v0; exact GS_le (g2 v0).2.2 (by omega)
  · have e := hi 155 (by omega)
    have e6 := hi 156 (by omega)
    rw [g1]
    refine ⟨mtI I1 (nR (rbI I t r) t) (mR (rbI I t r) t) (cR (rbI I t r) t) c, fun k => ?_, fun v0 => ?_, fun v0 => ?_⟩
    · have := Fn_X6_tick (k + 6) I1 P1 hP1.2.1 (nR (rbI I t r) t) (by rw [e6]; exact e3) (by omega) (mR (rbI I t r) t) (by rw [e6]; exact e2) (by omega) (cR (rbI I t r) t) (by rw [e6]; exact e0) (by omega) (by rw [e]; omega) (by rw [e6]; exact moO) (by rw [e6]; exact mvO) (by rw [e6]; omega) (by rw [e6]; omega) (by rw [e6]; omega) (by rw [e6]; omega) c
      rw [e6] at this
      exact this
    · unfold mtI
      rw [e6]
      split
      · exact fail_same I1
      · split
        · exact fail_same I1
        · rename_i z1 z2
          rw [← g1] at v0
          unfold ltV at v0
          have e1 := gs.1.1.2.2.2.2.2.2.2.1.2.1
          have := tks_le (rbI I t r) t (nR (rbI I t r) t) c.toNat
          rw [if_neg z1, e1, if_neg z2] at v0; omega
    · obtain ⟨q1, q2, _⟩ := g2 v0
      unfold mtI
      rw [e6, if_neg (fun z => z q1), if_neg q2]
      exact ch_succ (by rw [e]; exact hL.2.2.2.2.1)
theorem st_set (hn : n < 512) (hA : RmA r t h) (hW : PW P) (hR : PR P r t h) (hL : LI (1000 * n) I r h) (w v : Int) : lwStp mX5_set mX6_set [(1, .inl w), (2, .inl v)] (LW (n + 1)) I P := by
  obtain ⟨gs, fr⟩ := spare_G hA hL
  obtain ⟨ro, e3, e2, e0⟩ := RoOK_of gs (by omega)
  have ht := hA.2.1
  obtain ⟨g1, g2, gq, g3⟩ := set_G gs w v
  have hK : ∀ z : Nat, z < t ∨ t + 25 ≤ z → csI (rbI I t r) t w v z = I z := fun z hz => by rw [g3 z hz, fr z hz]
  have q0 : csI (rbI I t r) t w v 0 3 = I 0 3 := by rw [hK 0 (RmB_far ht (by omega))]
  have hq := hL.2.1
  refine stp_change (v := csV (rbI I t r) t w v) (row := fset (I 156) (8 + w) v) hA hW hR hL (fun k => Fn_X5_set (k + 8) I P r t h (cn_of hA hW hR) ro w v (by omega)) hK (fun v0 => ?_) (fun I1 P1 hP1 hi => ?_)
  · rw [g1] at v0; exact GS_le (g2 v0) (by omega)
  · have e := hi 155 (by omega)
    have e6 := hi 156 (by omega)
    rw [g1]
    refine ⟨stI I1 w v, fun k => ?_, fun v0 => ?_, fun v0 => ?_⟩
    · have := Fn_X6_set (k + 6) I1 P1 hP1.2.1 (by rw [e]; omega) w v
      rw [e6] at this
      exact this
    · unfold stI
      rw [if_neg (fun z => by have := gq.mpr z; omega)]
      exact fail_same I1
    · unfold stI
      rw [if_pos (gq.mp v0), e6]
      exact ch_succ (by rw [e]; exact hL.2.2.2.2.1)
theorem st_mark (hn : n < 512) (hA : RmA r t h) (hW : PW P) (hR : PR P r t h) (hL : LI (1000 * n) I r h) : lwStp mX5_mark mX6_mark [] (LW (n + 1)) I P := by
  obtain ⟨gs, fr⟩ := spare_G hA hL
  obtain ⟨ro, e3, e2, e0⟩ := RoOK_of gs (by omega)
  have ht := hA.2.1
  have m2 := gs.1.1.1.2.2.1
  obtain ⟨g1, g2, g3⟩ := mark_G gs e2 (by omega)
  have hK : ∀ z : Nat, z < t ∨ t + 25 ≤ z → amI (rbI I t r) t (mR (rbI I t r) t) z = I z := fun z hz => by rw [g3 z hz, fr z hz]
  have q0 : amI (rbI I t r) t (mR (rbI I t r) t) 0 3 = I 0 3 := by rw [hK 0 (RmB_far ht (by omega))]
  have hq := hL.2.1
  refine stp_change (v := if 3 ≤ mR (rbI I t r) t then -3 else (mR (rbI I t r) t : Int)) (row := fset (mkA (I 156) (mR (rbI I t r) t) 16) 2 ((mR (rbI I t r) t : Int) + 1)) hA hW hR hL (fun k => Fn_X5_mark (k + 8) I P r t h (cn_of hA hW hR) ro (by omega)) hK (fun v0 => ?_) (fun I1 P1 hP1 hi => ?_)
  · rw [g1] at v0; exact GS_le (g2 v0).2 (by omega)
  · have e := hi 155 (by omega)
    have e6 := hi 156 (by omega)
    rw [g1]
    refine ⟨mmI I1 (mR (rbI I t r) t), fun k => ?_, fun v0 => ?_, fun v0 => ?_⟩
    · exact Fn_X6_mark (k + 8) I1 P1 hP1.2.1 (mR (rbI I t r) t) (by rw [e6]; exact e2) (by omega) (by rw [e]; omega)
    · unfold mmI
      rw [if_pos (by unfold mmV at v0; refine Classical.byContradiction (fun z => ?_); rw [if_neg z] at v0; omega)]
      exact fail_same I1
    · unfold mmI
      rw [if_neg (g2 v0).1, e6]
      exact ch_succ (by rw [e]; exact hL.2.2.2.2.1)
theorem st_keep (hn : n < 512) (hA : RmA r t h) (hW : PW P) (hR : PR P r t h) (hL : LI (1000 * n) I r h) : lwStp mX5_keep mX6_keep [] (LW (n + 1)) I P := by
  obtain ⟨gs, fr⟩ := spare_G hA hL
  obtain ⟨ro, e3, e2, e0⟩ := RoOK_of gs (by omega)
  have ht := hA.2.1
  obtain ⟨g1, g2, g3⟩ := keep_G gs e3 e2 e0
  have hK : ∀ z : Nat, z < t ∨ t + 25 ≤ z → dfI (rbI I t r) t (nR (rbI I t r) t) (mR (rbI I t r) t) z = I z := fun z hz => by rw [g3 z hz, fr z hz]
  have q0 : dfI (rbI I t r) t (nR (rbI I t r) t) (mR (rbI I t r) t) 0 3 = I 0 3 := by rw [hK 0 (RmB_far ht (by omega))]
  have hq := hL.2.1
  obtain ⟨m5, m6, m1, m10, m7, m4, m8, m9, mst, moO, mvO, mmk, mdu, m2, mn6, m0⟩ := mo_of gs (by omega) e3
  refine stp_change (v := if mR (rbI I t r) t = 0 then -2 else ((mR (rbI I t r) t - 1 : Nat) : Int)) (row := kpS (I 156) (nR (rbI I t r) t) (mR (rbI I t r) t) (cR (rbI I t r) t)) hA hW hR hL (fun k => Fn_X5_keep (k + 8) I P r t h (cn_of hA hW hR) ro (by omega)) hK (fun v0 => ?_) (fun I1 P1 hP1 hi => ?_)
  · rw [g1] at v0; exact GS_le (g2 v0).2 (by omega)
  · have e := hi 155 (by omega)
    have e6 := hi 156 (by omega)
    rw [g1]
    refine ⟨kpI I1 (nR (rbI I t r) t) (mR (rbI I t r) t) (cR (rbI I t r) t), fun k => ?_, fun v0 => ?_, fun v0 => ?_⟩
    · exact Fn_X6_keep (k + 8) I1 P1 hP1.2.1 (nR (rbI I t r) t) (by rw [e6]; exact e3) (by omega) (mR (rbI I t r) t) (by rw [e6]; exact e2) (by omega) (cR (rbI I t r) t) (by rw [e6]; exact e0) (by omega) (by rw [e]; omega) (by rw [e6]; exact mmk)
    · unfold kpI
      rw [if_pos (by unfold kpV at v0; refine Classical.byContradiction (fun z => ?_); rw [if_neg z] at v0; omega)]
      exact fail_same I1
    · unfold kpI
      rw [if_neg (g2 v0).1, e6]
      exact ch_succ (by rw [e]; exact hL.2.2.2.2.1)
theorem st_back (hn : n < 512) (hA : RmA r t h) (hW : PW P) (hR : PR P r t h) (hL : LI (1000 * n) I r h) (y : Int) : lwStp mX5_back mX6_back [(1, .inl y)] (LW (n + 1)) I P := by
  obtain ⟨gs, fr⟩ := spare_G hA hL
  obtain ⟨ro, e3, e2, e0⟩ := RoOK_of gs (by omega)
  have ht := hA.2.1
  obtain ⟨g1, g2, g3⟩ := back_G gs e3 e2 e0 y
  have hK : ∀ z : Nat, z < t ∨ t + 25 ≤ z → gbI (rbI I t r) t (nR (rbI I t r) t) (mR (rbI I t r) t) y z = I z := fun z hz => by rw [g3 z hz, fr z hz]
  have q0 : gbI (rbI I t r) t (nR (rbI I t r) t) (mR (rbI I t r) t) y 0 3 = I 0 3 := by rw [hK 0 (RmB_far ht (by omega))]
  have hq := hL.2.1
  obtain ⟨m5, m6, m1, m10, m7, m4, m8, m9, mst, moO, mvO, mmk, mdu, m2, mn6, m0⟩ := mo_of gs (by omega) e3
  refine stp_change (v := gbV (rbI I t r) t (nR (rbI I t r) t) (mR (rbI I t r) t) y) (row := bkS (I 156) (nR (rbI I t r) t) (mR (rbI I t r) t) (cR (rbI I t r) t) y) hA hW hR hL (fun k => Fn_X5_back (k + 8) I P r t h (cn_of hA hW hR) ro y (by omega)) hK (fun v0 => ?_) (fun I1 P1 hP1 hi => ?_)
  · rw [g1] at v0; exact GS_le (g2 v0).2 (by omega)
  · have e := hi 155 (by omega)
    have e6 := hi 156 (by omega)
    rw [g1]
    refine ⟨bkI I1 (nR (rbI I t r) t) (mR (rbI I t r) t) (cR (rbI I t r) t) y, fun k => ?_, fun v0 => ?_, fun v0 => ?_⟩
    · have := Fn_X6_back (k + 7) I1 P1 hP1.2.1 (nR (rbI I t r) t) (by rw [e6]; exact e3) (by omega) (mR (rbI I t r) t) (by rw [e6]; exact e2) (by omega) (cR (rbI I t r) t) (by rw [e6]; exact e0) (by omega) (by rw [e]; omega) y
      rw [e6] at this
      exact this
    · unfold bkI
      rw [if_neg (fun z => by
        have := (back_R gs.1 e3 e2 e0 z.1 z.2).1
        rw [← this] at v0
        have d := (dropF_at (f := rbI I t r (t + 14)) (y := y) (nR (rbI I t r) t)).1
        unfold gbV at v0
        rw [if_pos z] at v0
        omega)]
      exact fail_same I1
    · unfold bkI
      rw [if_pos (g2 v0).1, e6]
      exact ch_succ (by rw [e]; exact hL.2.2.2.2.1)
end CH
