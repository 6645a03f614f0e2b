/-! ===== the mathematics: a whole text on both sides; fault, play ===== -/
theorem LkF_no {I T : mIt} {t : Nat} (h : LkF I T t) (a b c : Int) : LkF I (noI T a b c) t := by
  obtain ⟨f1, f2, f3⟩ := h
  unfold noI
  refine ⟨fun x a1 a2 a3 a4 => by rw [mUp_ne _ _ _ a4, mUp_ne _ _ _ a4, mUp_ne _ _ _ a4]; exact f1 x a1 a2 a3 a4, by rw [mUp_ne _ _ _ (by omega), mUp_ne _ _ _ (by omega), mUp_ne _ _ _ (by omega)]; exact f2, ?_⟩
  rw [mUp_at, fset_ne _ _ (by omega), mUp_at, fset_ne _ _ (by omega), mUp_at, fset_ne _ _ (by omega)]; exact f3
theorem noI_at (T : mIt) (a b c : Int) : noI T a b c 0 5 = a ∧ noI T a b c 0 6 = b ∧ noI T a b c 0 7 = c := by
  unfold noI
  refine ⟨?_, ?_, ?_⟩
  · rw [mUp_at, fset_ne _ _ (by omega), mUp_at, fset_ne _ _ (by omega), mUp_at, fset_at]
  · rw [mUp_at, fset_ne _ _ (by omega), mUp_at, fset_at]
  · rw [mUp_at, fset_at]
theorem plL_end {M : mIt} (h : ¬ (M 155 9 < M 155 7 ∧ M 155 10 = 0)) (f : Nat) (x : Int) : plL f M x = (M, x) := by
  cases f with
  | zero => rfl
  | succ f => rw [plL, if_neg h]
section TE
variable {N : Int} {I M0 : mIt} {r t : Nat}
theorem lk_0 (ht : RmB t) (hx : TxM I M0) (hG : GS N (rbI I t r) t (M0 156)) (fr : ∀ x : Nat, x < t ∨ t + 25 ≤ x → rbI I t r x = I x) : Lk N I M0 t (ttZ I r t) (plZ M0) 0 0 := by
  have t0 : 0 < t ∨ t + 25 ≤ 0 := RmB_far ht (by omega)
  have t52 : 52 < t ∨ t + 25 ≤ 52 := RmB_far ht (by omega)
  have z : ∀ x : Nat, x ≠ 155 → plZ M0 x = M0 x := fun x hx => by unfold plZ; rw [mUp_ne _ _ _ hx, mUp_ne _ _ _ hx, mUp_ne _ _ _ hx, mUp_ne _ _ _ hx]
  have f : LkF I (rbI I t r) t := ⟨fun x a _ _ _ => fr x a, by rw [fr 52 t52], by rw [fr 0 t0]⟩
  have e : ∀ x : Nat, x ≠ 0 → ttZ I r t x = rbI I t r x := fun x hx => by unfold ttZ noI; rw [mUp_ne _ _ _ hx, mUp_ne _ _ _ hx, mUp_ne _ _ _ hx]
  refine ⟨⟨LkF_no f _ _ _, (noI_at _ _ _ _).2.1⟩, ⟨fun x a _ _ _ => z x a, by simp [plZ, mUp, fset], by simp [plZ, mUp, fset], by simp [plZ, mUp, fset]⟩, ?_, ⟨by simp [plZ, mUp, fset], Int.le_refl _, hx.1.1⟩, by simp [plZ, mUp, fset], by simp [plZ, mUp, fset], Int.le_refl _, Int.le_refl _⟩
  rw [z 156 (by omega), show N + 10 * 0 = N by omega]
  exact GS_VE (VE_same (fun x a b => e x (by omega))) hG
def runR (N : Int) (I M0 : mIt) (t : Nat) (A B : mIt × Int) : Prop := LkF I A.1 t ∧ LkM M0 B.1 ∧ ((A.1 0 6 = 0 ∧ B.1 155 10 = 0 ∧ 0 ≤ A.2 ∧ B.1 155 11 = A.2 ∧ GS (N + 800) A.1 t (B.1 156)) ∨ (B.1 155 10 ≠ 0 ∧ B.2 = A.1 0 5 ∧ 0 ≤ A.1 0 5 ∧ ((A.1 0 6 = 1 ∧ B.1 155 10 = -4) ∨ (A.1 0 6 = 2 ∧ B.1 155 10 = A.1 0 7 ∧ A.1 0 7 ≠ -4))))
theorem lk_fin {T M : mIt} {p c : Int} (hx : TxM I M0) (h : Lk N I M0 t T M p c) (x : Int) : runR N I M0 t (T, c) (M, x) := by
  obtain ⟨⟨f, f6⟩, m, hG, ⟨h9, p0, p1⟩, h10, h11, c0, cp⟩ := h
  exact ⟨f, m, Or.inl ⟨f6, h10, c0, h11, GS_le hG (by have := hx.1; omega)⟩⟩
theorem lk_run (ht : RmB t) (hx : TxM I M0) (hN : N ≤ 900000) : ∀ (f : Nat) (T M : mIt) (p c x : Int), Lk N I M0 t T M p c → I 52 1 - p ≤ f → runR N I M0 t (ttL t f T c p) (plL f M x) := by
  intro f
  induction f with
  | zero => intro T M p c x h _; exact lk_fin hx h x
  | succ f ih =>
    intro T M p c x h hf
    have h2 := h
    obtain ⟨⟨⟨f1, f2, f3⟩, f6⟩, ⟨m1, m4, m5, m7⟩, hG, ⟨h9, p0, p1⟩, h10, h11, c0, cp⟩ := h2
    by_cases hp : p < I 52 1
    · obtain ⟨st, s1, s2, s3, s4, s5⟩ := lk_step ht hx hN h hp
      have eM : plL (f + 1) M x = plL f (plS M) p := by rw [plL, if_pos ⟨by rw [h9, m7, hx.2.1]; exact hp, h10⟩, h9]
      rw [eM]
      rcases st with ⟨a1, a2, a3, a4⟩ | ⟨b1, b2, b3, b4, b5, b6, b7⟩
      · have eT : ttL t (f + 1) T c p = (noI (t5K T p) p 1 0, c) := by rw [ttL, if_pos (by rw [f2]; exact hp), if_pos a1]
        have v10 : plS M 155 10 = -4 := by rw [s4, a3, if_pos (by omega)]
        rw [eT, plL_end (by rw [v10]; omega)]
        obtain ⟨n5, n6, n7⟩ := noI_at (t5K T p) p 1 0
        refine ⟨LkF_no a4 _ _ _, s1, Or.inr ⟨by simp only; omega, by simp only; omega, by simp only; omega, Or.inl ⟨n6, v10⟩⟩⟩
      · by_cases neg : plR M < 0
        · have eT : ttL t (f + 1) T c p = (noI (t5L t T p) p 2 (t5V t T p), c) := by rw [ttL, if_pos (by rw [f2]; exact hp), if_neg b1, if_pos (by rw [b3]; exact neg)]
          have v10 : plS M 155 10 = plR M := by rw [s4, if_pos neg]
          rw [eT, plL_end (by rw [v10]; omega)]
          obtain ⟨n5, n6, n7⟩ := noI_at (t5L t T p) p 2 (t5V t T p)
          refine ⟨LkF_no b6 _ _ _, s1, Or.inr ⟨by simp only; omega, by simp only; omega, by simp only; omega, Or.inr ⟨n6, by simp only; omega, by simp only; omega⟩⟩⟩
        · have eT : ttL t (f + 1) T c p = ttL t f (t5L t T p) (c + 1) (t5L t T p 52 3) := by rw [ttL, if_pos (by rw [f2]; exact hp), if_neg b1, if_neg (by rw [b3]; exact neg)]
          rw [eT]
          obtain ⟨k1, k2⟩ := b7 (by omega)
          exact ih _ _ _ _ _ k1 (by omega)
    · have eT : ttL t (f + 1) T c p = (T, c) := by rw [ttL, if_neg (by rw [f2]; exact hp)]
      rw [eT, plL_end (by rw [h9, m7, hx.2.1]; omega)]
      exact lk_fin hx h x
/-- a text: what both sides ask, what they say -/
theorem text_R (ht : RmB t) (hx : TxM I M0) (hN : N ≤ 900000) (hG : GS N (rbI I t r) t (M0 156)) (fr : ∀ x : Nat, x < t ∨ t + 25 ≤ x → rbI I t r x = I x) : TtOK I r t ∧ PlOK M0 ∧ LkF I (ttR I r t).1 t ∧ ((∀ x : Nat, x ≠ 155 → x ≠ 156 → x ≠ 159 → x ≠ 162 → plI M0 x = M0 x) ∧ plI M0 155 4 = M0 155 4 ∧ plI M0 155 5 = 0 ∧ plI M0 155 7 = M0 155 7) ∧
    (((ttR I r t).1 0 6 = 0 ∧ plV M0 = -4 ∧ 0 ≤ (ttR I r t).2 ∧ plI M0 155 11 = (ttR I r t).2 ∧ GS (N + 800) (ttR I r t).1 t (plI M0 156)) ∨ (plV M0 = (ttR I r t).1 0 5 ∧ 0 ≤ (ttR I r t).1 0 5 ∧ (((ttR I r t).1 0 6 = 1 ∧ plI M0 155 10 = -4) ∨ ((ttR I r t).1 0 6 = 2 ∧ plI M0 155 10 = (ttR I r t).1 0 7 ∧ (ttR I r t).1 0 7 ≠ -4)))) := by
  have z := lk_0 ht hx hG fr
  have run : runR N I M0 t (ttR I r t) (plX M0) := lk_run ht hx hN 80 _ _ 0 0 0 z (by have := hx.1; omega)
  obtain ⟨rF, rM, rr⟩ := run
  have i5 : ∀ j : Int, j ≠ 5 → plI M0 155 j = (plX M0).1 155 j := fun j hj => by unfold plI; rw [mUp_at, fset_ne _ _ hj]
  have ix : ∀ x : Nat, x ≠ 155 → plI M0 x = (plX M0).1 x := fun x hx => by unfold plI; rw [mUp_ne _ _ _ hx]
  refine ⟨⟨fun T p => ∃ (M : mIt) (c : Int), Lk N I M0 t T M p c, ⟨_, _, z⟩, ?_⟩, ⟨by rw [hx.2.1]; exact hx.1.2, fun M => (∃ (T : mIt) (p c : Int), Lk N I M0 t T M p c) ∨ (TxOK M ∧ M 155 10 ≠ 0), Or.inl ⟨_, _, _, z⟩, ?_⟩, rF, ⟨fun x a1 a2 a3 a4 => by rw [ix x a1]; exact rM.1 x a1 a2 a3 a4, by rw [i5 4 (by omega)]; exact rM.2.1, by unfold plI; rw [mUp_at, fset_at], by rw [i5 7 (by omega)]; exact rM.2.2.2⟩, ?_⟩
  · rintro T p ⟨M, c, h⟩
    have h2 := h
    obtain ⟨⟨⟨f1, f2, f3⟩, f6⟩, _, _, ⟨h9, p0, p1⟩, _⟩ := h2
    refine ⟨lk_xt ht hx h, ⟨p0, by have := hx.1; omega⟩, fun hp hc => ?_⟩
    rw [f2] at hp
    obtain ⟨st, _⟩ := lk_step ht hx hN h hp
    rcases st with ⟨a1, _⟩ | ⟨b1, b2, b3, b4, b5, b6, b7⟩
    · exact absurd a1 hc
    · exact ⟨b4, fun v0 => ⟨_, _, (b7 (by omega)).1⟩⟩
  · rintro M (⟨T, p, c, h⟩ | ⟨h1, h2⟩)
    · refine ⟨lk_tx hx h, fun a b => ?_⟩
      have h2 := h
      obtain ⟨_, ⟨m1, m4, m5, m7⟩, _, ⟨h9, p0, p1⟩, _⟩ := h2
      rw [h9, m7, hx.2.1] at a
      obtain ⟨st, s1, s2, s3, s4, s5⟩ := lk_step ht hx hN h a
      refine ⟨s5, ?_⟩
      by_cases neg : plR M < 0
      · exact Or.inr ⟨s2, by rw [s4, if_pos neg]; omega⟩
      · rcases st with ⟨a1, a2, a3, a4⟩ | ⟨b1, b2, b3, b4, b5, b6, b7⟩
        · omega
        · exact Or.inl ⟨_, _, _, (b7 (by omega)).1⟩
    · exact ⟨h1, fun _ b => absurd b h2⟩
  · rcases rr with ⟨q1, q2, q3, q4, q5⟩ | ⟨q1, q2, q3, q4⟩
    · exact Or.inl ⟨q1, by unfold plV; rw [if_pos q2], q3, by rw [i5 11 (by omega)]; exact q4, by rw [ix 156 (by omega)]; exact q5⟩
    · exact Or.inr ⟨by unfold plV; rw [if_neg q1]; exact q2, q3, by rw [i5 10 (by omega)]; exact q4⟩
end TE
theorem cpy_rg (I : mIt) (a n : Nat) (f : Int → Int) {i : Int} (h0 : 0 ≤ i) (h1 : i < n) : cpy I a n f a i = f i := by
  unfold cpy
  rw [if_pos rfl, if_pos ⟨h0, h1⟩]
section TF
variable {n : Nat} {I : mIt} {P : mPt} {r t : Nat} {h : Int → Nat}
theorem txm_of {N : Int} {M0 : mIt} (hL : LI N I r h) (h7 : M0 155 7 = I 155 7) (h160 : M0 160 = I 160) (h4 : 0 ≤ M0 155 4 ∧ M0 155 4 ≤ 4) : TxM I M0 := by
  have tx := hL.2.2.2.1
  unfold TX at tx
  exact ⟨tx.1, by rw [h7]; exact tx.2.1, by rw [h160]; exact tx.2.2.1, by rw [h160]; exact tx.2.2.2, h4⟩
theorem fh_at (K : mIt) : (∀ x : Nat, x ≠ 158 → fhM K x = K x) ∧ (∀ i : Int, 0 ≤ i → i < 153 → fhM K 158 i = K 156 i) := by
  unfold fhM
  exact ⟨fun x hx => cpy_ne _ _ _ hx, fun i a b => cpy_rg _ _ _ _ a b⟩
theorem fb_at (K : mIt) : (∀ x : Nat, x ≠ 156 → fbM K x = K x) ∧ (∀ i : Int, 0 ≤ i → i < 153 → fbM K 156 i = K 158 i) := by
  unfold fbM
  exact ⟨fun x hx => cpy_ne _ _ _ hx, fun i a b => cpy_rg _ _ _ _ a b⟩
/-- the first playing of a text, from any memory that has the room's row and the text: all comes back -/
theorem first_R (hn : n < 512) (hA : RmA r t h) (hL : LI (1000 * n) I r h) {K : mIt} (hK : ∀ x : Nat, 155 ≤ x → K x = I x) : TtOK I r t ∧ PlOK (fhM K) ∧ LkF I (ttR I r t).1 t ∧ ((∀ x : Nat, x ≠ 155 → x ≠ 156 → x ≠ 158 → x ≠ 159 → x ≠ 162 → fpM K x = K x) ∧ (fpM K 155 4 = K 155 4 ∧ fpM K 155 5 = 0 ∧ fpM K 155 7 = K 155 7) ∧ (∀ i : Int, 0 ≤ i → i < 153 → fpM K 156 i = K 156 i)) ∧
    (((ttR I r t).1 0 6 = 0 ∧ plV (fhM K) = -4 ∧ 0 ≤ (ttR I r t).2) ∨ (plV (fhM K) = (ttR I r t).1 0 5 ∧ 0 ≤ (ttR I r t).1 0 5 ∧ (((ttR I r t).1 0 6 = 1 ∧ fpM K 155 10 = -4) ∨ ((ttR I r t).1 0 6 = 2 ∧ fpM K 155 10 = (ttR I r t).1 0 7 ∧ (ttR I r t).1 0 7 ≠ -4)))) := by
  obtain ⟨gs, fr⟩ := spare_G hA hL
  obtain ⟨h1, h2⟩ := fh_at K
  have hq := hL.2.1
  obtain ⟨T1, T2, T3, ⟨T4, T5, T6, T7⟩, T8⟩ := text_R (N := 1000 * n) (I := I) (M0 := fhM K) (r := r) (t := t) hA.2.1 (txm_of hL (by rw [h1 155 (by omega), hK 155 (by omega)]) (by rw [h1 160 (by omega), hK 160 (by omega)]) (by rw [h1 155 (by omega), hK 155 (by omega)]; omega)) (by omega) (by rw [h1 156 (by omega), hK 156 (by omega)]; exact gs) fr
  obtain ⟨b1, b2⟩ := fb_at (plI (fhM K))
  have e155 : fpM K 155 = plI (fhM K) 155 := b1 155 (by omega)
  refine ⟨T1, T2, T3, ⟨fun x a1 a2 a3 a4 a5 => by show fbM (plI (fhM K)) x = K x; rw [b1 x a2, T4 x a1 a2 a4 a5, h1 x a3], ⟨by rw [e155, T5, h1 155 (by omega)], by rw [e155, T6], by rw [e155, T7, h1 155 (by omega)]⟩, fun i a b => ?_⟩, ?_⟩
  · show fbM (plI (fhM K)) 156 i = K 156 i
    rw [b2 i a b, T4 158 (by omega) (by omega) (by omega) (by omega), h2 i a b]
  · rw [e155]
    rcases T8 with ⟨q1, q2, q3, _⟩ | ⟨q1, q2, q3⟩
    · exact Or.inl ⟨q1, q2, q3⟩
    · exact Or.inr ⟨q1, q2, q3⟩
theorem st_fault (hn : n < 512) (hA : RmA r t h) (hW : PW P) (hR : PR P r t h) (hL : LI (1000 * n) I r h) (w : Int) : lwStp mX5_fault mX6_fault [(1, .inl w)] (LW (n + 1)) I P := by
  have hM : (1000 * ((n + 1 : Nat) : Int)) = 1000 * (n : Int) + 1000 := by omega
  obtain ⟨T1, _, T3, _, _⟩ := first_R (K := I) hn hA hL (fun _ _ => rfl)
  have w5 := fun k => Fn_X5_fault (k + 4) I P r t h (cn_of hA hW hR) hW.1 T1 w
  by_cases q : 0 ≤ w ∧ w ≤ 2
  · have qq : ¬ ¬ (0 ≤ w ∧ w ≤ 2) := fun z => z q
    have ht := hA.2.1
    have hK : ∀ x : Nat, 155 ≤ x → (ttR I r t).1 x = I x := fun x hx => T3.1 x (RmB_far ht (by omega)) (by omega) (by omega) (by omega)
    obtain ⟨_, S2, _, ⟨S4, S5, S6⟩, S8⟩ := first_R (K := (ttR I r t).1) hn hA hL hK
    have w6 := fun k => Fn_X6_fault (k + 1) (ttR I r t).1 P hW.2.1 w (fun _ => S2)
    have eI : ftI I r t w = (ttR I r t).1 := by unfold ftI; rw [if_neg qq]
    have eJ : faI (ttR I r t).1 w = fpM (ttR I r t).1 := by unfold faI; rw [if_neg qq]
    have eV : faV (ttR I r t).1 w = ftV I r t w := by
      unfold faV ftV
      rw [if_neg qq, if_neg qq]
      rcases S8 with ⟨q1, q2, _⟩ | ⟨q1, q2, q3⟩
      · rw [if_pos (Or.inl q2), if_pos q1, q2]
      · have n6 : ¬ (ttR I r t).1 0 6 = 0 := by rcases q3 with z | z <;> omega
        rw [if_neg n6]
        by_cases w0 : w = 0
        · rw [if_pos (Or.inr w0), if_pos w0, q1]
        · rw [if_neg (by omega), if_neg w0]
          rcases q3 with ⟨z1, z2⟩ | ⟨z1, z2, z3⟩
          · by_cases w1 : w = 1
            · rw [if_neg (by omega), if_pos z2, if_pos w1, z1]
            · rw [if_pos (by omega), if_neg w1, if_pos z1, z2]
          · by_cases w1 : w = 1
            · rw [if_neg (by omega), if_neg (by omega), if_pos w1, z1]
            · rw [if_pos (by omega), if_neg w1, if_neg (by omega), z2]
    refine ⟨ftV I r t w, (ttR I r t).1, P, fpM (ttR I r t).1, fun k => ?_, fun k => ?_, r, t, h, hA, hW, hR, ?_⟩
    · have := w5 k
      rw [eI] at this
      exact this
    · have := w6 k
      rw [eV, eJ] at this
      exact this
    · rw [hM]
      refine LI_keep hA hL (by omega) (fun x a1 a2 a3 a4 a5 => by rw [S4 x (by omega) (by omega) (by omega) (by omega) (by omega)]; exact T3.1 x a1 a3 a5 a4) (by rw [S4 0 (by omega) (by omega) (by omega) (by omega) (by omega)]; exact T3.2.2) (by rw [S4 52 (by omega) (by omega) (by omega) (by omega) (by omega)]; exact T3.2.1) (fun i a b => by rw [S6 i a b, hK 156 (by omega)]) ⟨by rw [S5.1, hK 155 (by omega)], by rw [S5.2.1, hL.2.2.2.2.1], by rw [S5.2.2, hK 155 (by omega)]⟩ (fun i a b => by rw [S4 157 (by omega) (by omega) (by omega) (by omega) (by omega), hK 157 (by omega)]) (by rw [S4 160 (by omega) (by omega) (by omega) (by omega) (by omega), hK 160 (by omega)]) (by rw [S4 161 (by omega) (by omega) (by omega) (by omega) (by omega), hK 161 (by omega)]; exact hL.2.2.2.2.2)
  · have eV : ftV I r t w = -1 := by unfold ftV; rw [if_pos q]
    have eI : ftI I r t w = I := by unfold ftI; rw [if_pos q]
    have w6 := fun k => Fn_X6_fault (k + 1) I P hW.2.1 w (fun z => absurd z q)
    refine ⟨-1, I, P, I, fun k => ?_, fun k => ?_, r, t, h, hA, hW, hR, ?_⟩
    · have := w5 k
      rw [eI, eV] at this
      exact this
    · have := w6 k
      unfold faV faI at this
      rw [if_pos q, if_pos q] at this
      exact this
    · rw [hM]
      exact LI_keep hA hL (by omega) (fun _ _ _ _ _ _ => rfl) rfl rfl (fun _ _ _ => rfl) ⟨rfl, rfl, rfl⟩ (fun _ _ _ => rfl) rfl hL.2.2.2.2.2
theorem st_play (hn : n < 512) (hA : RmA r t h) (hW : PW P) (hR : PR P r t h) (hL : LI (1000 * n) I r h) : lwStp mX5_play mX6_play [] (LW (n + 1)) I P := by
  have hM : (1000 * ((n + 1 : Nat) : Int)) = 1000 * (n : Int) + 1000 := by omega
  have ht := hA.2.1
  have hq := hL.2.1
  have t0 : 0 < t ∨ t + 25 ≤ 0 := RmB_far ht (by omega)
  have h5 := hL.2.2.2.2.1
  obtain ⟨T1, _, T3, _, _⟩ := first_R (K := I) hn hA hL (fun _ _ => rfl)
  have w5 := fun k => Fn_X5_play (k + 4) I P r t h (cn_of hA hW hR) hW.1 T1 (by rw [T3.2.2]; exact ⟨hq.1, hq.2.1⟩)
  have hK : ∀ x : Nat, 155 ≤ x → (ttR I r t).1 x = I x := fun x hx => T3.1 x (RmB_far ht (by omega)) (by omega) (by omega) (by omega)
  have hi : ∀ x : Nat, 155 ≤ x → slI (ttR I r t).1 (p5V I r t) x = I x := fun x hx => by
    unfold slI
    split
    · exact hK x hx
    · split
      · rw [mUp_ne _ _ _ (by omega)]; exact hK x hx
      · exact hK x hx
  obtain ⟨_, S2, _, ⟨S4, S5, S6⟩, S8⟩ := first_R (K := slI (ttR I r t).1 (p5V I r t)) hn hA hL hi
  have hP1 : PW (slP P (ttR I r t).1 r t h (p5V I r t)) := PW_sl hW _ _ _ _ _
  -- the second playing
  obtain ⟨gs, fr⟩ := spare_G hA hL
  have c155 : fcM (slI (ttR I r t).1 (p5V I r t)) 155 = fset (fpM (slI (ttR I r t).1 (p5V I r t)) 155) 4 (chQ 0 (I 155 4)) := by
    unfold fcM chI
    rw [mUp_at, arS_ne _ _ (by omega), S5.2.1, S5.1, hi 155 (by omega)]
  have c157 : fcM (slI (ttR I r t).1 (p5V I r t)) 157 = chP 0 (I 155 4) (I 157) (fpM (slI (ttR I r t).1 (p5V I r t)) 156) := by
    unfold fcM chI
    rw [mUp_ne _ _ _ (by omega), arS_at, S5.2.1, S5.1, hi 155 (by omega), S4 157 (by omega) (by omega) (by omega) (by omega) (by omega), hi 157 (by omega)]
  have cx : ∀ x : Nat, x ≠ 155 → x ≠ 157 → fcM (slI (ttR I r t).1 (p5V I r t)) x = fpM (slI (ttR I r t).1 (p5V I r t)) x := fun x a b => by
    unfold fcM chI
    rw [mUp_ne _ _ _ a, arS_ne _ _ b]
  have q4 : 0 ≤ chQ 0 (I 155 4) ∧ chQ 0 (I 155 4) ≤ 4 := by unfold chQ; rw [if_pos rfl]; split <;> omega
  obtain ⟨_, U2, _, ⟨U4, U5, U6, U7⟩, U8⟩ := text_R (N := 1000 * n) (I := I) (M0 := fcM (slI (ttR I r t).1 (p5V I r t))) (r := r) (t := t) ht (txm_of hL (by rw [c155, fset_ne _ _ (by omega), S5.2.2, hi 155 (by omega)]) (by rw [cx 160 (by omega) (by omega), S4 160 (by omega) (by omega) (by omega) (by omega) (by omega), hi 160 (by omega)]) (by rw [c155, fset_at]; exact q4)) (by omega) (by
    rw [cx 156 (by omega) (by omega)]
    exact GS_row gs (fun i a b => by rw [S6 i a b, hi 156 (by omega)])) fr
  have w6 := fun k => Fn_X6_play (k + 1) (slI (ttR I r t).1 (p5V I r t)) (slP P (ttR I r t).1 r t h (p5V I r t)) hP1.2.1 S2 (by rw [S5.1, hi 155 (by omega)]; omega) (fun _ => U2)
  rcases S8 with ⟨q1, q2, q3⟩ | ⟨q1, q2, q3⟩
  · -- it is played
    have eV : p5V I r t = (ttR I r t).2 := by unfold p5V; rw [if_pos q1]
    rcases U8 with ⟨u1, u2, u3, u4, u5⟩ | ⟨u1, u2, u3⟩
    · have ePV : pyV (slI (ttR I r t).1 (p5V I r t)) = p5V I r t := by
        unfold pyV
        rw [if_neg (fun z => z q2), if_pos u2, u4, eV]
      have ePI : pyI (slI (ttR I r t).1 (p5V I r t)) = plI (fcM (slI (ttR I r t).1 (p5V I r t))) := by
        unfold pyI
        rw [if_neg (fun z => z q2)]
      have v0 : 0 ≤ p5V I r t := by rw [eV]; exact q3
      obtain ⟨t', h', a1, a2, a3, a4⟩ := LI_push (M := 1000 * n + 1000) (v := p5V I r t) (K := (ttR I r t).1) (J := plI (fcM (slI (ttR I r t).1 (p5V I r t)))) (row := plI (fcM (slI (ttR I r t).1 (p5V I r t))) 156) (old := fpM (slI (ttR I r t).1 (p5V I r t)) 156) hA hW hR hL (by omega) v0 (fun x b1 b2 b3 b4 b5 => T3.1 x b1 b3 b5 b4) T3.2.2 T3.2.1 (GS_le u5 (by omega)) (fun x hx => by rw [U4 x (by omega) (by omega) (by omega) (by omega), cx x (by omega) (by omega), S4 x (by omega) (by omega) (by omega) (by omega) (by omega)]) ⟨by rw [U5, c155, fset_at], U6, by rw [U7, c155, fset_ne _ _ (by omega), S5.2.2, hi 155 (by omega)]⟩ (fun _ _ _ => rfl) (fun i a b => by rw [S6 i a b, hi 156 (by omega)]) (fun i _ _ => by rw [U4 157 (by omega) (by omega) (by omega) (by omega), c157]) (by rw [U4 160 (by omega) (by omega) (by omega) (by omega), cx 160 (by omega) (by omega), S4 160 (by omega) (by omega) (by omega) (by omega) (by omega), hi 160 (by omega)]) (by rw [U4 161 (by omega) (by omega) (by omega) (by omega), cx 161 (by omega) (by omega), S4 161 (by omega) (by omega) (by omega) (by omega) (by omega), hi 161 (by omega)]; exact hL.2.2.2.2.2)
      refine ⟨p5V I r t, slI (ttR I r t).1 (p5V I r t), slP P (ttR I r t).1 r t h (p5V I r t), plI (fcM (slI (ttR I r t).1 (p5V I r t))), w5, fun k => ?_, t, t', h', a1, a2, a3, by rw [hM]; exact a4⟩
      have := w6 k
      rw [ePV, ePI] at this
      exact this
    · exfalso
      rcases u3 with ⟨z1, _⟩ | ⟨z1, _⟩ <;> omega
  · -- it has a fault
    have n6 : ¬ (ttR I r t).1 0 6 = 0 := by rcases q3 with z | z <;> omega
    have eV : p5V I r t = -2 := by unfold p5V; rw [if_neg n6]
    have nq : ¬ plV (fhM (slI (ttR I r t).1 (p5V I r t))) = -4 := by omega
    have ePV : pyV (slI (ttR I r t).1 (p5V I r t)) = p5V I r t := by unfold pyV; rw [if_pos nq, eV]
    have ePI : pyI (slI (ttR I r t).1 (p5V I r t)) = fpM (slI (ttR I r t).1 (p5V I r t)) := by unfold pyI; rw [if_pos nq]
    have e1 : slI (ttR I r t).1 (p5V I r t) = (ttR I r t).1 := by unfold slI; rw [if_pos (by omega)]
    have e2 : slP P (ttR I r t).1 r t h (p5V I r t) = P := by unfold slP; rw [if_pos (by omega)]
    refine ⟨p5V I r t, slI (ttR I r t).1 (p5V I r t), slP P (ttR I r t).1 r t h (p5V I r t), fpM (slI (ttR I r t).1 (p5V I r t)), w5, fun k => ?_, r, t, h, hA, ?_, ?_, ?_⟩
    · have := w6 k
      rw [ePV, ePI] at this
      exact this
    · rw [e2]; exact hW
    · rw [e2]; exact hR
    · rw [hM]
      rw [e1] at S4 S5 S6 ⊢
      refine LI_keep hA hL (by omega) (fun x a1 a2 a3 a4 a5 => by rw [S4 x (by omega) (by omega) (by omega) (by omega) (by omega)]; exact T3.1 x a1 a3 a5 a4) (by rw [S4 0 (by omega) (by omega) (by omega) (by omega) (by omega)]; exact T3.2.2) (by rw [S4 52 (by omega) (by omega) (by omega) (by omega) (by omega)]; exact T3.2.1) (fun i a b => by rw [S6 i a b, hK 156 (by omega)]) ⟨by rw [S5.1, hK 155 (by omega)], by rw [S5.2.1, hL.2.2.2.2.1], by rw [S5.2.2, hK 155 (by omega)]⟩ (fun i a b => by rw [S4 157 (by omega) (by omega) (by omega) (by omega) (by omega), hK 157 (by omega)]) (by rw [S4 160 (by omega) (by omega) (by omega) (by omega) (by omega), hK 160 (by omega)]) (by rw [S4 161 (by omega) (by omega) (by omega) (by omega) (by omega), hK 161 (by omega)]; exact hL.2.2.2.2.2)
end TF
