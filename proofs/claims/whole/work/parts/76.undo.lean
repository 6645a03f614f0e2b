/-! ===== the mathematics: undo, signs of the text ===== -/
section UN
variable {n : Nat} {I : mIt} {P : mPt} {r t : Nat} {h : Int → Nat}
theorem st_undo (hn : n < 512) (hA : RmA r t h) (hW : PW P) (hR : PR P r t h) (hL : LI (1000 * n) I r h) : lwStp mX5_undo mX6_undo [] (LW (n + 1)) I P := by
  have hq := hL.2.1
  have hM : (1000 * ((n + 1 : Nat) : Int)) = 1000 * (n : Int) + 1000 := by omega
  have hx : ∀ x : Nat, x ≠ 0 → udI I x = I x := fun x hx => by
    unfold udI
    split
    · rw [mUp_ne _ _ _ hx]
    · rfl
  have e155 : udI I 155 = I 155 := hx 155 (by omega)
  obtain ⟨hr, ht, hrt, hh, hhh⟩ := hA
  by_cases q : 0 < I 0 3
  · have hP1 : PW (udP P I r h) := by
      unfold udP
      rw [if_pos q]
      refine PW_up hW (fun a i h1 h2 => ?_)
      unfold mUp fset
      rw [if_neg h2]
      by_cases z : a = 0
      · subst z
        simp only [if_true]
        rw [if_neg (by omega)]
      · rw [if_neg z]
    have hv : unV (udI I) = udV I := by
      unfold unV udV
      rw [e155, hq.2.2, if_neg (by omega), if_pos q]
    refine ⟨udV I, udI I, udP P I r h, unI (udI I), fun k => Fn_X5_undo (k + 11) I P r t h (cn_of ⟨hr, ht, hrt, hh, hhh⟩ hW hR) ⟨hq.1, hq.2.1⟩, fun k => ?_, h (I 0 3 - 1), t, fun i => if i = I 0 3 - 1 then r else h i, ?_, hP1, ?_, ?_⟩
    · rw [← hv]
      exact Fn_X6_undo (k + 10) (udI I) (udP P I r h) hP1.2.1 (by rw [e155]; omega)
    · have hq1 := hh (I 0 3 - 1) (by omega) (by omega)
      refine ⟨hq1.1, ht, hq1.2.2, fun i a b => ?_, fun i j a b c d e => ?_⟩
      · simp only
        by_cases z : i = I 0 3 - 1
        · rw [if_pos z]; exact ⟨hr, Ne.symm hq1.2.1, hrt⟩
        · rw [if_neg z]; exact ⟨(hh i a b).1, hhh i _ a b (by omega) (by omega) z, (hh i a b).2.2⟩
      · simp only
        by_cases z : i = I 0 3 - 1
        · rw [if_pos z, if_neg (by omega)]; exact Ne.symm (hh j c d).2.1
        · rw [if_neg z]
          by_cases y : j = I 0 3 - 1
          · rw [if_pos y]; exact (hh i a b).2.1
          · rw [if_neg y]; exact hhh i j a b c d e
    · unfold udP
      rw [if_pos q]
      refine ⟨?_, ?_, fun i a b => ?_⟩
      · unfold mUp fset; simp
      · unfold mUp fset; simp; exact hR.2.1
      · unfold mUp fset
        simp only
        rw [if_pos trivial]
        by_cases z : i = I 0 3 - 1
        · rw [if_pos z, if_pos z]
        · rw [if_neg z, if_neg z, if_neg (by omega)]; exact hR.2.2 i a b
    · rw [hM]
      have eJ : unI (udI I) = arS (mUp (udI I) 155 4 (I 0 3 - 1)) 156 (unP (I 156) (I 157) (I 0 3 - 1) 153) := by
        unfold unI
        rw [e155, hq.2.2, if_neg (by omega), hx 156 (by omega), hx 157 (by omega)]
      have Jx : ∀ x : Nat, x ≠ 155 → x ≠ 156 → unI (udI I) x = udI I x := fun x h1 h2 => by rw [eJ, arS_ne _ _ h2, mUp_ne _ _ _ h1]
      have J155 : unI (udI I) 155 = fset (I 155) 4 (I 0 3 - 1) := by rw [eJ, arS_ne _ _ (by omega), mUp_at, e155]
      have J156 : unI (udI I) 156 = unP (I 156) (I 157) (I 0 3 - 1) 153 := by rw [eJ, arS_at]
      have J03 : unI (udI I) 0 3 = I 0 3 - 1 := by rw [Jx 0 (by omega) (by omega)]; unfold udI; rw [if_pos q, mUp_at, fset_at]
      have far : ∀ {b : Nat}, RmB b → ∀ x : Nat, b ≤ x → x < b + 25 → unI (udI I) x = I x := fun {b} hb x h1 h2 => by
        unfold RmB at hb
        rw [Jx x (by omega) (by omega), hx x (by omega)]
      refine ⟨?_, ?_, ?_, ?_, ?_, ?_⟩
      · have g := hL.2.2.1 (I 0 3 - 1) (by omega) (by omega)
        refine GS_row (GS_VE (VE_same (far (hh _ (by omega) (by omega)).1)) (GS_le g (by omega))) (fun i a b => ?_)
        rw [J156]
        unfold unP rowH
        rw [if_pos ⟨a, by omega⟩]
      · rw [J03, J155, fset_at]; omega
      · rw [J03]
        intro i a b
        simp only
        rw [if_neg (by omega)]
        have g := hL.2.2.1 i a (by omega)
        refine GS_row (GS_VE (VE_same (far (hh _ a (by omega)).1)) (GS_le g (by omega))) (fun k _ _ => ?_)
        unfold rowH
        rw [Jx 157 (by omega) (by omega), hx 157 (by omega)]
      · have tx := hL.2.2.2.1
        unfold TX at *
        rw [J155, fset_ne _ _ (by omega), Jx 52 (by omega) (by omega), Jx 53 (by omega) (by omega), Jx 160 (by omega) (by omega), hx 52 (by omega), hx 53 (by omega), hx 160 (by omega)]
        exact tx
      · rw [J155, fset_ne _ _ (by omega)]; exact hL.2.2.2.2.1
      · rw [Jx 161 (by omega) (by omega), hx 161 (by omega)]; exact hL.2.2.2.2.2
  · have z0 : I 0 3 = 0 := by omega
    have eI : udI I = I := by unfold udI; rw [if_neg q]
    have eP : udP P I r h = P := by unfold udP; rw [if_neg q]
    have eV : udV I = -2 := by unfold udV; rw [if_neg q]
    refine ⟨-2, I, P, I, fun k => ?_, fun k => ?_, r, t, h, ⟨hr, ht, hrt, hh, hhh⟩, hW, hR, ?_⟩
    · have := Fn_X5_undo (k + 11) I P r t h (cn_of ⟨hr, ht, hrt, hh, hhh⟩ hW hR) ⟨hq.1, hq.2.1⟩
      rw [eI, eP, eV] at this
      exact this
    · have := Fn_X6_undo (k + 10) I P hW.2.1 (by omega)
      unfold unV unI at this
      rw [if_pos (by omega), if_pos (by omega)] at this
      exact this
    · rw [hM]
      exact LI_keep ⟨hr, ht, hrt, hh, hhh⟩ hL (by omega) (fun _ _ _ _ _ _ => rfl) rfl rfl (fun _ _ _ => rfl) ⟨rfl, rfl, rfl⟩ (fun _ _ _ => rfl) rfl hL.2.2.2.2.2
/-- only the text changes -/
theorem LI_text {N M : Int} {I J : mIt} {r t : Nat} {h : Int → Nat} (hA : RmA r t h) (hL : LI N I r h) (hNM : N ≤ M) (hx : ∀ x : Nat, x ≠ 52 → x ≠ 53 → x ≠ 155 → x ≠ 160 → J x = I x) (h155 : J 155 4 = I 155 4 ∧ J 155 5 = I 155 5) (tx : TX J) : LI M J r h := by
  obtain ⟨g, q, hs, _, z5, lk⟩ := hL
  have rm : ∀ {b : Nat}, RmB b → ∀ x : Nat, b ≤ x → x < b + 25 → J x = I x := fun {b} hb x h1 h2 => by
    unfold RmB at hb; exact hx x (by omega) (by omega) (by omega) (by omega)
  refine ⟨?_, ?_, ?_, tx, ?_, ?_⟩
  · rw [hx 156 (by omega) (by omega) (by omega) (by omega)]
    exact GS_VE (VE_same (rm hA.1)) (GS_le g hNM)
  · rw [hx 0 (by omega) (by omega) (by omega) (by omega), h155.1]; exact q
  · rw [hx 0 (by omega) (by omega) (by omega) (by omega)]
    exact Hs_J (g := h) hs hNM (fun i a b => rm (hA.2.2.2.1 i a (by omega)).1) (fun i k _ _ _ _ => by rw [hx 157 (by omega) (by omega) (by omega) (by omega)])
  · rw [h155.2]; exact z5
  · rw [hx 161 (by omega) (by omega) (by omega) (by omega)]; exact lk
theorem st_clearText (hn : n < 512) (hA : RmA r t h) (hW : PW P) (hR : PR P r t h) (hL : LI (1000 * n) I r h) : lwStp mX5_clearText mX6_clearText [] (LW (n + 1)) I P := by
  have hM : (1000 * ((n + 1 : Nat) : Int)) = 1000 * (n : Int) + 1000 := by omega
  have tx := hL.2.2.2.1
  have e : mUp I 52 1 0 155 = I 155 := mUp_ne _ _ _ (by omega)
  refine ⟨I 52 1, mUp I 52 1 0, P, mUp (mUp I 52 1 0) 155 7 0, fun k => Fn_X5_clearText (k + 11) I P r t h (cn_of hA hW hR) hW.1, fun k => ?_, r, t, h, hA, hW, hR, ?_⟩
  · have := Fn_X6_clearText (k + 10) (mUp I 52 1 0) P hW.2.1
    rw [e, tx.2.1] at this
    exact this
  · rw [hM]
    refine LI_text hA hL (by omega) (fun x h1 h2 h3 h4 => by rw [mUp_ne _ _ _ h3, mUp_ne _ _ _ h1]) ?_ ?_
    · rw [mUp_at, fset_ne _ _ (by omega), fset_ne _ _ (by omega), e]; exact ⟨rfl, rfl⟩
    · unfold TX at *
      have e52 : mUp (mUp I 52 1 0) 155 7 0 52 1 = 0 := by rw [mUp_ne _ _ _ (by omega), mUp_at, fset_at]
      rw [e52, mUp_at, fset_at, mUp_ne _ _ _ (show 160 ≠ 155 by omega), mUp_ne _ _ _ (show 160 ≠ 52 by omega), mUp_ne _ _ _ (show 53 ≠ 155 by omega), mUp_ne _ _ _ (show 53 ≠ 52 by omega)]
      exact ⟨by omega, rfl, fun i a b => by omega, tx.2.2.2⟩
theorem st_type (hn : n < 512) (hA : RmA r t h) (hW : PW P) (hR : PR P r t h) (hL : LI (1000 * n) I r h) (c : Int) : lwStp mX5_type mX6_type [(1, .inl c)] (LW (n + 1)) I P := by
  have hM : (1000 * ((n + 1 : Nat) : Int)) = 1000 * (n : Int) + 1000 := by omega
  have tx := hL.2.2.2.1
  have w5 := fun k => Fn_X5_type (k + 10) I P r t h (cn_of hA hW hR) hW.1 c
  have w6 := fun (k : Nat) (K : mIt) (e : K 155 7 = I 155 7) => Fn_X6_type (k + 10) K P hW.2.1 (by rw [e, tx.2.1]; exact tx.1) c
  by_cases q : 32 ≤ c ∧ c ≤ 126
  · have qq : ¬ ¬ (32 ≤ c ∧ c ≤ 126) := fun z => z q
    by_cases f : I 52 1 = 80
    · -- full
      have a1 : apV I = -3 := by unfold apV; rw [if_pos (by omega)]
      have a2 : apI I c = I := by unfold apI; rw [if_pos (by omega)]
      refine ⟨-3, I, P, I, fun k => ?_, fun k => ?_, r, t, h, hA, hW, hR, ?_⟩
      · have := w5 k
        rw [if_pos q, if_pos q, a1, a2] at this; exact this
      · have := w6 k I rfl
        unfold tyV tyI at this
        rw [if_neg qq, if_neg qq, tx.2.1, if_pos f, if_pos f] at this; exact this
      · rw [hM]; exact LI_text hA hL (by omega) (fun _ _ _ _ _ => rfl) ⟨rfl, rfl⟩ tx
    · have a1 : apV I = I 52 1 + 1 := by unfold apV; rw [if_neg (by have := tx.1; omega)]
      have a2 : apI I c = mUp (mUp I 53 (I 52 1) c) 52 1 (I 52 1 + 1) := by unfold apI; rw [if_neg (by have := tx.1; omega)]
      have e155 : mUp (mUp I 53 (I 52 1) c) 52 1 (I 52 1 + 1) 155 = I 155 := by rw [mUp_ne _ _ _ (by omega), mUp_ne _ _ _ (by omega)]
      have e160 : mUp (mUp I 53 (I 52 1) c) 52 1 (I 52 1 + 1) 160 = I 160 := by rw [mUp_ne _ _ _ (by omega), mUp_ne _ _ _ (by omega)]
      refine ⟨I 52 1 + 1, mUp (mUp I 53 (I 52 1) c) 52 1 (I 52 1 + 1), P, mUp (mUp (mUp (mUp I 53 (I 52 1) c) 52 1 (I 52 1 + 1)) 160 (I 52 1) c) 155 7 (I 52 1 + 1), fun k => ?_, fun k => ?_, r, t, h, hA, hW, hR, ?_⟩
      · have := w5 k
        rw [if_pos q, if_pos q, a1, a2] at this; exact this
      · have := w6 k (mUp (mUp I 53 (I 52 1) c) 52 1 (I 52 1 + 1)) (by rw [e155])
        unfold tyV tyI at this
        rw [if_neg qq, if_neg qq, e155, tx.2.1, if_neg f, if_neg f] at this
        exact this
      · rw [hM]
        refine LI_text hA hL (by omega) (fun x h1 h2 h3 h4 => by rw [mUp_ne _ _ _ h3, mUp_ne _ _ _ h4, mUp_ne _ _ _ h1, mUp_ne _ _ _ h2]) ?_ ?_
        · rw [mUp_at, fset_ne _ _ (by omega), fset_ne _ _ (by omega), mUp_ne _ _ _ (by omega), e155]; exact ⟨rfl, rfl⟩
        · have J52 : mUp (mUp (mUp (mUp I 53 (I 52 1) c) 52 1 (I 52 1 + 1)) 160 (I 52 1) c) 155 7 (I 52 1 + 1) 52 1 = I 52 1 + 1 := by
            rw [mUp_ne _ _ _ (by omega), mUp_ne _ _ _ (by omega), mUp_at, fset_at]
          have J53 : mUp (mUp (mUp (mUp I 53 (I 52 1) c) 52 1 (I 52 1 + 1)) 160 (I 52 1) c) 155 7 (I 52 1 + 1) 53 = fset (I 53) (I 52 1) c := by
            rw [mUp_ne _ _ _ (by omega), mUp_ne _ _ _ (by omega), mUp_ne _ _ _ (by omega), mUp_at]
          have J160 : mUp (mUp (mUp (mUp I 53 (I 52 1) c) 52 1 (I 52 1 + 1)) 160 (I 52 1) c) 155 7 (I 52 1 + 1) 160 = fset (I 160) (I 52 1) c := by
            rw [mUp_ne _ _ _ (by omega), mUp_at, e160]
          have J157 : mUp (mUp (mUp (mUp I 53 (I 52 1) c) 52 1 (I 52 1 + 1)) 160 (I 52 1) c) 155 7 (I 52 1 + 1) 155 7 = I 52 1 + 1 := by rw [mUp_at, fset_at]
          unfold TX at *
          rw [J52, J53, J160, J157]
          obtain ⟨t1, t2, t3, t4⟩ := tx
          refine ⟨by omega, rfl, fun i a b => ?_, fun i a b => ?_⟩
          · by_cases z : i = I 52 1
            · rw [z, fset_at, fset_at]
            · rw [fset_ne _ _ z, fset_ne _ _ z]; exact t3 i a (by omega)
          · by_cases z : i = I 52 1
            · rw [z, fset_at, fset_at]; omega
            · rw [fset_ne _ _ z, fset_ne _ _ z]; exact t4 i a b
  · refine ⟨-1, I, P, I, fun k => ?_, fun k => ?_, r, t, h, hA, hW, hR, ?_⟩
    · have := w5 k
      rw [if_neg q, if_neg q] at this; exact this
    · have := w6 k I rfl
      unfold tyV tyI at this
      rw [if_pos q, if_pos q] at this; exact this
    · rw [hM]; exact LI_text hA hL (by omega) (fun _ _ _ _ _ => rfl) ⟨rfl, rfl⟩ tx
end UN
