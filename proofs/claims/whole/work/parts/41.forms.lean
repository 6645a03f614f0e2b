/-! ===== the text of the program: forms, commands ===== -/
def fmK (w : Int) : Nat := if 0 ≤ w ∧ w ≤ 7 then w.toNat else 8
theorem fmK_lt (w : Int) : fmK w < 9 := by
  unfold fmK
  split <;> omega
theorem xt_54 {T : mIt} (h : XtOK T) (c v : Int) : XtOK (mUp T 54 c v) := by
  have e1 : mUp T 54 c v 52 1 = T 52 1 := by simp [mUp, fset]
  have e2 : ∀ i : Int, mUp T 54 c v 53 i = T 53 i := fun i => by simp [mUp, fset]
  exact ⟨by rw [e1]; exact h.1, fun i a b => by rw [e2]; exact h.2 i a b⟩
theorem xt_543 (T : mIt) (c v : Int) : mUp T 54 c v 52 3 = T 52 3 := by simp [mUp, fset]
theorem rx_ok {T : mIt} (h : XtOK T) : XtOK (rxI T) ∧ T 52 3 ≤ rxI T 52 3 ∧ rxI T 52 3 ≤ T 52 3 + 4 := by
  unfold rxI
  split
  · exact ⟨xt_3 h _, by rw [xt_33]; omega, by rw [xt_33]; omega⟩
  · exact ⟨h, by omega, by omega⟩
theorem xn_ok (f : Nat) : ∀ (T : mIt) (v : Int) (c : Nat), XtOK T → XtOK (xnL f T v c).1 ∧ T 52 3 ≤ (xnL f T v c).1 52 3 ∧ (xnL f T v c).1 52 3 ≤ T 52 3 + f := by
  induction f with
  | zero => intro T v c h; exact ⟨h, Int.le_refl _, by show T 52 3 ≤ T 52 3 + ((0 : Nat) : Int); omega⟩
  | succ f ih =>
    intro T v c h
    unfold xnL
    split
    · obtain ⟨a1, a2, a3⟩ := ih (mUp T 52 3 (T 52 3 + 1)) (v * 10 + sgV T (T 52 3) - 48) (c + 1) (xt_3 h _)
      rw [xt_33] at a2 a3
      exact ⟨a1, by omega, by omega⟩
    · exact ⟨h, by show T 52 3 ≤ T 52 3; omega, by show T 52 3 ≤ _; omega⟩
def rdV (T : mIt) (ch : Int) : Int := if ch = 64 then rxV T else xnV T
def rdI (T : mIt) (ch : Int) : mIt := if ch = 64 then rxI T else (xnL 4 T 0 0).1
theorem rd_ok {T : mIt} (h : XtOK T) (ch : Int) : XtOK (rdI T ch) ∧ T 52 3 ≤ rdI T ch 52 3 ∧ rdI T ch 52 3 ≤ T 52 3 + 4 := by
  unfold rdI
  split
  · exact rx_ok h
  · exact xn_ok 4 T 0 0 h
def mxL (i : Nat) : Nat → mIt → Int → Int → Bool × mIt
  | 0, T, _, _ => (true, T)
  | f + 1, T, c, p => if chS i p = 64 ∨ chS i p = 35 then (if rdV T (chS i p) = -1 ∨ 3 ≤ c then (false, rdI T (chS i p)) else mxL i f (mUp (rdI T (chS i p)) 54 c (rdV T (chS i p))) (c + 1) (p + 1)) else if sgV T (T 52 3) = chS i p then mxL i f (mUp T 52 3 (T 52 3 + 1)) c (p + 1) else (false, T)
set_option maxRecDepth 20000 in
set_option maxHeartbeats 4000000 in
theorem Fn_X3_form (k : Nat) (I : mIt) (P : mPt) (w : Int) : WP (k + 0) mX3_form none (0, 0) (Rt (some (.inr (some (1000 + fmK w)))) (lay0, I, P)) 0 [(0, .inl w)] [] (lay0, I, P) := by
  refine r_iload_n (d := mX3_form) (pc := 0) (i := 0) (v := w) dX3_form_0 rfl rfl ?_
  by_cases hs1_0 : w = 0
  · rw [hs1_0]
    refine r_tableIn (d := mX3_form) (pc := 1) (tgt := 48) (off := 47) dX3_form_1 (by decide) (by decide) rfl (by decide) ?_
    refine r_ldcS (d := mX3_form) (pc := 48) (i := 0) dX3_form_48 (by decide) rfl ?_
    exact r_aret (d := mX3_form) (pc := 50) dX3_form_50 rfl (rtR (by first | rfl | (rw [fmK, if_neg (by omega)])) (by rfl)) (by decide) (by decide)
  by_cases hs1_1 : w = 1
  · rw [hs1_1]
    refine r_tableIn (d := mX3_form) (pc := 1) (tgt := 51) (off := 50) dX3_form_1 (by decide) (by decide) rfl (by decide) ?_
    refine r_ldcS (d := mX3_form) (pc := 51) (i := 1) dX3_form_51 (by decide) rfl ?_
    exact r_aret (d := mX3_form) (pc := 53) dX3_form_53 rfl (rtR (by first | rfl | (rw [fmK, if_neg (by omega)])) (by rfl)) (by decide) (by decide)
  by_cases hs1_2 : w = 2
  · rw [hs1_2]
    refine r_tableIn (d := mX3_form) (pc := 1) (tgt := 54) (off := 53) dX3_form_1 (by decide) (by decide) rfl (by decide) ?_
    refine r_ldcS (d := mX3_form) (pc := 54) (i := 2) dX3_form_54 (by decide) rfl ?_
    exact r_aret (d := mX3_form) (pc := 56) dX3_form_56 rfl (rtR (by first | rfl | (rw [fmK, if_neg (by omega)])) (by rfl)) (by decide) (by decide)
  by_cases hs1_3 : w = 3
  · rw [hs1_3]
    refine r_tableIn (d := mX3_form) (pc := 1) (tgt := 57) (off := 56) dX3_form_1 (by decide) (by decide) rfl (by decide) ?_
    refine r_ldcS (d := mX3_form) (pc := 57) (i := 3) dX3_form_57 (by decide) rfl ?_
    exact r_aret (d := mX3_form) (pc := 59) dX3_form_59 rfl (rtR (by first | rfl | (rw [fmK, if_neg (by omega)])) (by rfl)) (by decide) (by decide)
  by_cases hs1_4 : w = 4
  · rw [hs1_4]
    refine r_tableIn (d := mX3_form) (pc := 1) (tgt := 60) (off := 59) dX3_form_1 (by decide) (by decide) rfl (by decide) ?_
    refine r_ldcS (d := mX3_form) (pc := 60) (i := 4) dX3_form_60 (by decide) rfl ?_
    exact r_aret (d := mX3_form) (pc := 62) dX3_form_62 rfl (rtR (by first | rfl | (rw [fmK, if_neg (by omega)])) (by rfl)) (by decide) (by decide)
  by_cases hs1_5 : w = 5
  · rw [hs1_5]
    refine r_tableIn (d := mX3_form) (pc := 1) (tgt := 63) (off := 62) dX3_form_1 (by decide) (by decide) rfl (by decide) ?_
    refine r_ldcS (d := mX3_form) (pc := 63) (i := 5) dX3_form_63 (by decide) rfl ?_
    exact r_aret (d := mX3_form) (pc := 65) dX3_form_65 rfl (rtR (by first | rfl | (rw [fmK, if_neg (by omega)])) (by rfl)) (by decide) (by decide)
  by_cases hs1_6 : w = 6
  · rw [hs1_6]
    refine r_tableIn (d := mX3_form) (pc := 1) (tgt := 66) (off := 65) dX3_form_1 (by decide) (by decide) rfl (by decide) ?_
    refine r_ldcS (d := mX3_form) (pc := 66) (i := 6) dX3_form_66 (by decide) rfl ?_
    exact r_aret (d := mX3_form) (pc := 68) dX3_form_68 rfl (rtR (by first | rfl | (rw [fmK, if_neg (by omega)])) (by rfl)) (by decide) (by decide)
  by_cases hs1_7 : w = 7
  · rw [hs1_7]
    refine r_tableIn (d := mX3_form) (pc := 1) (tgt := 69) (off := 68) dX3_form_1 (by decide) (by decide) rfl (by decide) ?_
    refine r_ldcS (d := mX3_form) (pc := 69) (i := 7) dX3_form_69 (by decide) rfl ?_
    exact r_aret (d := mX3_form) (pc := 71) dX3_form_71 rfl (rtR (by first | rfl | (rw [fmK, if_neg (by omega)])) (by rfl)) (by decide) (by decide)
  refine r_tableOut (d := mX3_form) (pc := 1) (tgt := 72) dX3_form_1 (by omega) (by decide) ?_
  refine r_ldcS (d := mX3_form) (pc := 72) (i := 8) dX3_form_72 (by decide) rfl ?_
  exact r_aret (d := mX3_form) (pc := 74) dX3_form_74 rfl (rtR (by first | rfl | (rw [fmK, if_neg (by omega)])) (by rfl)) (by decide) (by decide)
