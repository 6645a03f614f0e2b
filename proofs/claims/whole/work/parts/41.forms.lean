/-! ===== the text of the program: forms, commands ===== -/
def fmK (w : Int) : Nat := if 0 ≤ w ∧ w ≤ 7 then w.toNat else 8
theorem fmK_lt (w : Int) : fmK w < 9 := by
  unfold fmK
  split <;> omega
theorem xt_54 {T : mIt} (h : XtOK T) (c v : Int) : XtOK (mUp T 54 c v) := by
  have e1 : mUp T 54 c v 52 1 = T 52 1 := by simp [mUp, fset]
  have e2 : ∀ i : Int, mUp T 54 c v 53 i = T 53 i := fun i => by simp [mUp, fset]
  exact ⟨by rw [e1]; exact h.1, fun i a b => by rw [e2]; exact h.2 i a b⟩
theorem xt_543 (T : mIt) (c v : Int) : mUp T 54 c v 52 3 = T 52 3 := by simp [mUp, fset]
theorem rx_ok {T : mIt} (h : XtOK T) : XtOK (rxI T) ∧ T 52 3 ≤ rxI T 52 3 ∧ rxI T 52 3 ≤ T 52 3 + 4 := by
  unfold rxI
  split
  · exact ⟨xt_3 h _, by rw [xt_33]; omega, by rw [xt_33]; omega⟩
  · exact ⟨h, by omega, by omega⟩
theorem xn_ok (f : Nat) : ∀ (T : mIt) (v : Int) (c : Nat), XtOK T → XtOK (xnL f T v c).1 ∧ T 52 3 ≤ (xnL f T v c).1 52 3 ∧ (xnL f T v c).1 52 3 ≤ T 52 3 + f := by
  induction f with
  | zero => intro T v c h; exact ⟨h, Int.le_refl _, by show T 52 3 ≤ T 52 3 + ((0 : Nat) : Int); omega⟩
  | succ f ih =>
    intro T v c h
    unfold xnL
    split
    · obtain ⟨a1, a2, a3⟩ := ih (mUp T 52 3 (T 52 3 + 1)) (v * 10 + sgV T (T 52 3) - 48) (c + 1) (xt_3 h _)
      rw [xt_33] at a2 a3
      exact ⟨a1, by omega, by omega⟩
    · exact ⟨h, by show T 52 3 ≤ T 52 3; omega, by show T 52 3 ≤ _; omega⟩
def rdV (T : mIt) (ch : Int) : Int := if ch = 64 then rxV T else xnV T
def rdI (T : mIt) (ch : Int) : mIt := if ch = 64 then rxI T else (xnL 4 T 0 0).1
theorem rd_ok {T : mIt} (h : XtOK T) (ch : Int) : XtOK (rdI T ch) ∧ T 52 3 ≤ rdI T ch 52 3 ∧ rdI T ch 52 3 ≤ T 52 3 + 4 := by
  unfold rdI
  split
  · exact rx_ok h
  · exact xn_ok 4 T 0 0 h
def mxL (i : Nat) : Nat → mIt → Int → Int → Bool × mIt
  | 0, T, _, _ => (true, T)
  | f + 1, T, c, p => if chS i p = 64 ∨ chS i p = 35 then (if rdV T (chS i p) = -1 ∨ 3 ≤ c then (false, rdI T (chS i p)) else mxL i f (mUp (rdI T (chS i p)) 54 c (rdV T (chS i p))) (c + 1) (p + 1)) else if sgV T (T 52 3) = chS i p then mxL i f (mUp T 52 3 (T 52 3 + 1)) c (p + 1) else (false, T)
def mtR (I : mIt) (i : Nat) (fr : Int) : Bool × mIt := mxL i (sLen.getD i 0) (mUp I 52 3 fr) 0 0
set_option maxRecDepth 20000 in
set_option maxHeartbeats 4000000 in
theorem Fn_X3_form (k : Nat) (I : mIt) (P : mPt) (w : Int) : WP (k + 0) mX3_form none (0, 0) (Rt (some (.inr (some (1000 + fmK w)))) (lay0, I, P)) 0 [(0, .inl w)] [] (lay0, I, P) := by
  refine r_iload_n (d := mX3_form) (pc := 0) (i := 0) (v := w) dX3_form_0 rfl rfl ?_
  by_cases hs1_0 : w = 0
  · rw [hs1_0]
    refine r_tableIn (d := mX3_form) (pc := 1) (tgt := 48) (off := 47) dX3_form_1 (by decide) (by decide) rfl (by decide) ?_
    refine r_ldcS (d := mX3_form) (pc := 48) (i := 0) dX3_form_48 (by decide) rfl ?_
    exact r_aret (d := mX3_form) (pc := 50) dX3_form_50 rfl (rtR (by first | rfl | (rw [fmK, if_neg (by omega)])) (by rfl)) (by decide) (by decide)
  by_cases hs1_1 : w = 1
  · rw [hs1_1]
    refine r_tableIn (d := mX3_form) (pc := 1) (tgt := 51) (off := 50) dX3_form_1 (by decide) (by decide) rfl (by decide) ?_
    refine r_ldcS (d := mX3_form) (pc := 51) (i := 1) dX3_form_51 (by decide) rfl ?_
    exact r_aret (d := mX3_form) (pc := 53) dX3_form_53 rfl (rtR (by first | rfl | (rw [fmK, if_neg (by omega)])) (by rfl)) (by decide) (by decide)
  by_cases hs1_2 : w = 2
  · rw [hs1_2]
    refine r_tableIn (d := mX3_form) (pc := 1) (tgt := 54) (off := 53) dX3_form_1 (by decide) (by decide) rfl (by decide) ?_
    refine r_ldcS (d := mX3_form) (pc := 54) (i := 2) dX3_form_54 (by decide) rfl ?_
    exact r_aret (d := mX3_form) (pc := 56) dX3_form_56 rfl (rtR (by first | rfl | (rw [fmK, if_neg (by omega)])) (by rfl)) (by decide) (by decide)
  by_cases hs1_3 : w = 3
  · rw [hs1_3]
    refine r_tableIn (d := mX3_form) (pc := 1) (tgt := 57) (off := 56) dX3_form_1 (by decide) (by decide) rfl (by decide) ?_
    refine r_ldcS (d := mX3_form) (pc := 57) (i := 3) dX3_form_57 (by decide) rfl ?_
    exact r_aret (d := mX3_form) (pc := 59) dX3_form_59 rfl (rtR (by first | rfl | (rw [fmK, if_neg (by omega)])) (by rfl)) (by decide) (by decide)
  by_cases hs1_4 : w = 4
  · rw [hs1_4]
    refine r_tableIn (d := mX3_form) (pc := 1) (tgt := 60) (off := 59) dX3_form_1 (by decide) (by decide) rfl (by decide) ?_
    refine r_ldcS (d := mX3_form) (pc := 60) (i := 4) dX3_form_60 (by decide) rfl ?_
    exact r_aret (d := mX3_form) (pc := 62) dX3_form_62 rfl (rtR (by first | rfl | (rw [fmK, if_neg (by omega)])) (by rfl)) (by decide) (by decide)
  by_cases hs1_5 : w = 5
  · rw [hs1_5]
    refine r_tableIn (d := mX3_form) (pc := 1) (tgt := 63) (off := 62) dX3_form_1 (by decide) (by decide) rfl (by decide) ?_
    refine r_ldcS (d := mX3_form) (pc := 63) (i := 5) dX3_form_63 (by decide) rfl ?_
    exact r_aret (d := mX3_form) (pc := 65) dX3_form_65 rfl (rtR (by first | rfl | (rw [fmK, if_neg (by omega)])) (by rfl)) (by decide) (by decide)
  by_cases hs1_6 : w = 6
  · rw [hs1_6]
    refine r_tableIn (d := mX3_form) (pc := 1) (tgt := 66) (off := 65) dX3_form_1 (by decide) (by decide) rfl (by decide) ?_
    refine r_ldcS (d := mX3_form) (pc := 66) (i := 6) dX3_form_66 (by decide) rfl ?_
    exact r_aret (d := mX3_form) (pc := 68) dX3_form_68 rfl (rtR (by first | rfl | (rw [fmK, if_neg (by omega)])) (by rfl)) (by decide) (by decide)
  by_cases hs1_7 : w = 7
  · rw [hs1_7]
    refine r_tableIn (d := mX3_form) (pc := 1) (tgt := 69) (off := 68) dX3_form_1 (by decide) (by decide) rfl (by decide) ?_
    refine r_ldcS (d := mX3_form) (pc := 69) (i := 7) dX3_form_69 (by decide) rfl ?_
    exact r_aret (d := mX3_form) (pc := 71) dX3_form_71 rfl (rtR (by first | rfl | (rw [fmK, if_neg (by omega)])) (by rfl)) (by decide) (by decide)
  refine r_tableOut (d := mX3_form) (pc := 1) (tgt := 72) dX3_form_1 (by omega) (by decide) ?_
  refine r_ldcS (d := mX3_form) (pc := 72) (i := 8) dX3_form_72 (by decide) rfl ?_
  exact r_aret (d := mX3_form) (pc := 74) dX3_form_74 rfl (rtR (by first | rfl | (rw [fmK, if_neg (by omega)])) (by rfl)) (by decide) (by decide)
set_option maxRecDepth 20000 in
set_option maxHeartbeats 4000000 in
theorem Fn_X3_matches (k : Nat) (I : mIt) (P : mPt) (hX : isTx P) (hT : XtOK I) (i : Nat) (hi : i < 9) (fr : Int) (hf0 : 0 ≤ fr) (hf1 : fr ≤ 200) : WP (k + 4) mX3_matches none (0, 0) (Rt (some (.inl (bI ((mtR I i fr).1 = true)))) (lay0, (mtR I i fr).2, P)) 0 [(0, .inr (some 52)), (1, .inr (some (1000 + i))), (2, .inl fr)] [] (lay0, I, P) := by
  have hsl := sLen_le i hi
  refine r_iconst (d := mX3_matches) (pc := 0) (n := 0) dX3_matches_0 ?_
  refine r_istore_n (d := mX3_matches) (pc := 1) (i := 3) (lv' := [(0, .inr (some 52)), (1, .inr (some (1000 + i))), (2, .inl fr), (3, .inl 0)]) dX3_matches_1 rfl (by decide) rfl rfl ?_
  refine r_aload_n (d := mX3_matches) (pc := 2) (i := 0) (v := 52) dX3_matches_2 rfl rfl ?_
  refine r_iload_n (d := mX3_matches) (pc := 3) (i := 2) (v := fr) dX3_matches_3 rfl rfl ?_
  refine r_putIs (d := mX3_matches) (pc := 4) (a := 52) (kd := 3) (j := 3) (lay0, mUp I 52 3 fr, P) dX3_matches_4 flRX3_23 ly52 (by decide) (by decide) rfl rfl (Or.inl rfl) rfl ?_
  refine r_iconst (d := mX3_matches) (pc := 7) (n := 0) dX3_matches_7 ?_
  refine r_istore (d := mX3_matches) (pc := 8) (i := 4) (lv' := [(0, .inr (some 52)), (1, .inr (some (1000 + i))), (2, .inl fr), (3, .inl 0), (4, .inl 0)]) dX3_matches_8 (by decide) rfl rfl ?_
  have L10 : ∀ f : Nat, ∀ (T : mIt) (c p : Int), XtOK T → (f : Int) + p = ((sLen.getD i 0 : Nat) : Int) → 0 ≤ p → (0 ≤ c ∧ c ≤ 3) → (0 ≤ T 52 3 ∧ T 52 3 ≤ 200 + 4 * p) → mtR I i fr = mxL i f T c p → WP (k + 4) mX3_matches none (0, 0) (Rt (some (.inl (bI ((mtR I i fr).1 = true)))) (lay0, (mtR I i fr).2, P)) 10 [(0, .inr (some 52)), (1, .inr (some (1000 + i))), (2, .inl fr), (3, .inl c), (4, .inl p)] [] (lay0, T, P) := by
    refine loopD _ (fun f ih10 T c p hTT hfp hp0 hc3 h9 hd => ?_)
    refine r_iload (d := mX3_matches) (pc := 10) (i := 4) (v := p) dX3_matches_10 rfl ?_
    refine r_aload_n (d := mX3_matches) (pc := 12) (i := 1) (v := 1000 + i) dX3_matches_12 rfl rfl ?_
    refine r_cT0 (d := mX3_matches) (pc := 13) (dj := mJ0_length_8abf5) (i := i) dX3_matches_13 mlRX3_52 inJ0_length_8abf5 selJ0_length_8abf5 rfl (by first | decide | assumption) okJ0_length_8abf5 (by decide) rfl (Nat.le_of_ble_eq_true rfl) (by decide) (by decide) (Fn_J0_length_8abf5 (k + 2) T P i (by first | decide | assumption)) ?_
    refine r_icmp_ge (d := mX3_matches) (pc := 16) (tgt := 122) dX3_matches_16 (by decide) (fun h16 => ?_) (fun h16 => ?_)
    · have hfin : mtR I i fr = (true, T) := by rw [hd, show f = 0 by omega]; rfl
      refine r_iconst (d := mX3_matches) (pc := 122) (n := 1) dX3_matches_122 ?_
      exact r_zret (d := mX3_matches) (pc := 123) dX3_matches_123 rfl (Or.inr rfl) (rtI (by first | exact (bI_t (by rw [hfin])).symm | exact (bI_f (by rw [hfin]; simp)).symm) (by refine memE ?_; rw [hfin])) (by decide) (by decide)
    · refine r_aload_n (d := mX3_matches) (pc := 19) (i := 1) (v := 1000 + i) dX3_matches_19 rfl rfl ?_
      refine r_iload (d := mX3_matches) (pc := 20) (i := 4) (v := p) dX3_matches_20 rfl ?_
      refine r_cT1 (d := mX3_matches) (pc := 22) (dj := mJ0_charAt_5068e) (i := i) dX3_matches_22 mlRX3_57 inJ0_charAt_5068e selJ0_charAt_5068e rfl (by first | decide | assumption) okJ0_charAt_5068e (by decide) rfl (Nat.le_of_ble_eq_true rfl) (by decide) (by decide) (Fn_J0_charAt_5068e k T P i (by first | decide | assumption) p (by omega) (by omega)) ?_
      refine r_istore (d := mX3_matches) (pc := 25) (i := 5) (lv' := [(0, .inr (some 52)), (1, .inr (some (1000 + i))), (2, .inl fr), (3, .inl c), (4, .inl p), (5, .inl (chS i p))]) dX3_matches_25 (by decide) rfl rfl ?_
      have hch := chS_rng hi hp0 (show p < ((sLen.getD i 0 : Nat) : Int) by omega)
      have hrd := rd_ok hTT (chS i p)
      have hsr := sgV_rng hTT (T 52 3)
      refine r_iload (d := mX3_matches) (pc := 27) (i := 5) (v := chS i p) dX3_matches_27 rfl ?_
      refine r_bipush (d := mX3_matches) (pc := 29) (n := 64) dX3_matches_29 ?_
      refine r_icmp_eq (d := mX3_matches) (pc := 31) (tgt := 41) dX3_matches_31 (by decide) (fun h31 => ?_) (fun h31 => ?_)
      · have hq64 : chS i p = 64 ∨ chS i p = 35 := by omega
        have T59 : WP (k + 4) mX3_matches none (0, 0) (Rt (some (.inl (bI ((mtR I i fr).1 = true)))) (lay0, (mtR I i fr).2, P)) 59 [(0, .inr (some 52)), (1, .inr (some (1000 + i))), (2, .inl fr), (3, .inl c), (4, .inl p), (5, .inl (chS i p))] [.inl (rdV T (chS i p))] (lay0, rdI T (chS i p), P) := by
          refine r_istore (d := mX3_matches) (pc := 59) (i := 6) (lv' := [(0, .inr (some 52)), (1, .inr (some (1000 + i))), (2, .inl fr), (3, .inl c), (4, .inl p), (5, .inl (chS i p)), (6, .inl (rdV T (chS i p)))]) dX3_matches_59 (by decide) rfl rfl ?_
          refine r_iload (d := mX3_matches) (pc := 61) (i := 6) (v := (rdV T (chS i p))) dX3_matches_61 rfl ?_
          refine r_iconst (d := mX3_matches) (pc := 63) (n := (-1)) dX3_matches_63 ?_
          refine r_icmp_eq (d := mX3_matches) (pc := 64) (tgt := 72) dX3_matches_64 (by decide) (fun h64 => ?_) (fun h64 => ?_)
          · have hfin : mtR I i fr = (false, rdI T (chS i p)) := by rw [hd, show f = (f - 1) + 1 by omega, mxL, if_pos hq64, if_pos (by omega)]
            refine r_iconst (d := mX3_matches) (pc := 72) (n := 0) dX3_matches_72 ?_
            exact r_zret (d := mX3_matches) (pc := 73) dX3_matches_73 rfl (Or.inl rfl) (rtI (by first | exact (bI_t (by rw [hfin])).symm | exact (bI_f (by rw [hfin]; simp)).symm) (by refine memE ?_; rw [hfin])) (by decide) (by decide)
          · refine r_iload_n (d := mX3_matches) (pc := 67) (i := 3) (v := c) dX3_matches_67 rfl rfl ?_
            refine r_iconst (d := mX3_matches) (pc := 68) (n := 3) dX3_matches_68 ?_
            refine r_icmp_lt (d := mX3_matches) (pc := 69) (tgt := 74) dX3_matches_69 (by decide) (fun h69 => ?_) (fun h69 => ?_)
            · refine r_aload_n (d := mX3_matches) (pc := 74) (i := 0) (v := 52) dX3_matches_74 rfl rfl ?_
              refine r_getRs (d := mX3_matches) (pc := 75) (a := 52) (kd := 3) (j := 2) (x := 54) dX3_matches_75 flRX3_19 ly52 (by decide) (by decide) rfl hX.2 ?_
              refine r_iload_n (d := mX3_matches) (pc := 78) (i := 3) (v := c) dX3_matches_78 rfl rfl ?_
              refine r_iload (d := mX3_matches) (pc := 79) (i := 6) (v := (rdV T (chS i p))) dX3_matches_79 rfl ?_
              refine r_iasts (d := mX3_matches) (pc := 81) (a := 54) (lay0, mUp (rdI T (chS i p)) 54 c (rdV T (chS i p)), P) dX3_matches_81 ly54 (by omega) (by omega) rfl ?_
              refine r_iinc (d := mX3_matches) (pc := 82) (i := 3) (v := c) (y := (c + 1)) (lv' := [(0, .inr (some 52)), (1, .inr (some (1000 + i))), (2, .inl fr), (3, .inl (c + 1)), (4, .inl p), (5, .inl (chS i p)), (6, .inl (rdV T (chS i p)))]) dX3_matches_82 rfl (by decide) rfl rfl rfl ?_
              refine r_goto (d := mX3_matches) (pc := 85) (tgt := 116) dX3_matches_85 (by decide) ?_
              refine r_iinc (d := mX3_matches) (pc := 116) (i := 4) (v := p) (y := (p + 1)) (lv' := [(0, .inr (some 52)), (1, .inr (some (1000 + i))), (2, .inl fr), (3, .inl (c + 1)), (4, .inl (p + 1)), (5, .inl (chS i p)), (6, .inl (rdV T (chS i p)))]) dX3_matches_116 rfl (by decide) rfl rfl rfl ?_
              refine r_goto (d := mX3_matches) (pc := 119) (tgt := 10) dX3_matches_119 (by decide) ?_
              refine WP.pick (lv' := [(0, .inr (some 52)), (1, .inr (some (1000 + i))), (2, .inl fr), (3, .inl (c + 1)), (4, .inl (p + 1))]) [0, 1, 2, 3, 4] rfl ?_
              exact wpE (by simp) rfl (by rfl) (ih10 (f - 1) (by omega) (mUp (rdI T (chS i p)) 54 c (rdV T (chS i p))) (c + 1) (p + 1) (xt_54 hrd.1 _ _) (by omega) (by omega) (by omega) (by rw [xt_543]; omega) (by rw [hd]; conv => lhs; rw [show f = (f - 1) + 1 by omega, mxL, if_pos hq64, if_neg (by omega)]))
            · have hfin : mtR I i fr = (false, rdI T (chS i p)) := by rw [hd, show f = (f - 1) + 1 by omega, mxL, if_pos hq64, if_pos (by omega)]
              refine r_iconst (d := mX3_matches) (pc := 72) (n := 0) dX3_matches_72 ?_
              exact r_zret (d := mX3_matches) (pc := 73) dX3_matches_73 rfl (Or.inl rfl) (rtI (by first | exact (bI_t (by rw [hfin])).symm | exact (bI_f (by rw [hfin]; simp)).symm) (by refine memE ?_; rw [hfin])) (by decide) (by decide)
        refine r_iload (d := mX3_matches) (pc := 41) (i := 5) (v := chS i p) dX3_matches_41 rfl ?_
        refine r_bipush (d := mX3_matches) (pc := 43) (n := 64) dX3_matches_43 ?_
        refine r_icmp_ne (d := mX3_matches) (pc := 45) (tgt := 55) dX3_matches_45 (by decide) (fun h45 => ?_) (fun h45 => ?_)
        · refine r_aload_n (d := mX3_matches) (pc := 55) (i := 0) (v := 52) dX3_matches_55 rfl rfl ?_
          refine r_cV0 (d := mX3_matches) (pc := 56) (dj := mX3_readNumber) (a := 52) (kd := 3) dX3_matches_56 mlRX3_64 inX3_readNumber selX3_readNumber rfl ly52 (by decide) okX3_readNumber (by decide) rfl (Nat.le_of_ble_eq_true rfl) (by decide) (by decide) (Fn_X3_readNumber (k + 2) T P hX hTT (by omega)) ?_
          exact wpE (by rfl) (by first | (exfalso; omega) | (rw [rdV]; first | (rw [if_pos (by omega)] <;> rfl) | (rw [if_neg (by omega)] <;> rfl))) (by first | (exfalso; omega) | (refine memE ?_; rw [rdI]; first | rw [if_pos (by omega)] | rw [if_neg (by omega)])) T59
        · refine r_aload_n (d := mX3_matches) (pc := 48) (i := 0) (v := 52) dX3_matches_48 rfl rfl ?_
          refine r_cV0 (d := mX3_matches) (pc := 49) (dj := mX3_readName) (a := 52) (kd := 3) dX3_matches_49 mlRX3_61 inX3_readName selX3_readName rfl ly52 (by decide) okX3_readName (by decide) rfl (Nat.le_of_ble_eq_true rfl) (by decide) (by decide) (Fn_X3_readName (k + 2) T P hX hTT (by omega)) ?_
          refine r_goto (d := mX3_matches) (pc := 52) (tgt := 59) dX3_matches_52 (by decide) ?_
          exact wpE (by rfl) (by first | (exfalso; omega) | (rw [rdV]; first | (rw [if_pos (by omega)] <;> rfl) | (rw [if_neg (by omega)] <;> rfl))) (by first | (exfalso; omega) | (refine memE ?_; rw [rdI]; first | rw [if_pos (by omega)] | rw [if_neg (by omega)])) T59
      · refine r_iload (d := mX3_matches) (pc := 34) (i := 5) (v := chS i p) dX3_matches_34 rfl ?_
        refine r_bipush (d := mX3_matches) (pc := 36) (n := 35) dX3_matches_36 ?_
        refine r_icmp_ne (d := mX3_matches) (pc := 38) (tgt := 88) dX3_matches_38 (by decide) (fun h38 => ?_) (fun h38 => ?_)
        · refine r_aload_n (d := mX3_matches) (pc := 88) (i := 0) (v := 52) dX3_matches_88 rfl rfl ?_
          refine r_aload_n (d := mX3_matches) (pc := 89) (i := 0) (v := 52) dX3_matches_89 rfl rfl ?_
          refine r_getIs (d := mX3_matches) (pc := 90) (a := 52) (kd := 3) (j := 3) (x := (T 52 3)) dX3_matches_90 flRX3_23 ly52 (by decide) (by decide) rfl (rfl) ?_
          refine r_cV1 (d := mX3_matches) (pc := 93) (dj := mX3_signAt) (a := 52) (kd := 3) dX3_matches_93 mlRX3_67 inX3_signAt selX3_signAt rfl ly52 (by decide) okX3_signAt (by decide) rfl (Nat.le_of_ble_eq_true rfl) (by decide) (by decide) (Fn_X3_signAt (k + 3) T P hX hTT (T 52 3)) ?_
          refine r_iload (d := mX3_matches) (pc := 96) (i := 5) (v := chS i p) dX3_matches_96 rfl ?_
          refine r_icmp_ne (d := mX3_matches) (pc := 98) (tgt := 114) dX3_matches_98 (by decide) (fun h98 => ?_) (fun h98 => ?_)
          · have hfin : mtR I i fr = (false, T) := by rw [hd, show f = (f - 1) + 1 by omega, mxL, if_neg (by omega), if_neg (by omega)]
            refine r_iconst (d := mX3_matches) (pc := 114) (n := 0) dX3_matches_114 ?_
            exact r_zret (d := mX3_matches) (pc := 115) dX3_matches_115 rfl (Or.inl rfl) (rtI (by first | exact (bI_t (by rw [hfin])).symm | exact (bI_f (by rw [hfin]; simp)).symm) (by refine memE ?_; rw [hfin])) (by decide) (by decide)
          · refine r_aload_n (d := mX3_matches) (pc := 101) (i := 0) (v := 52) dX3_matches_101 rfl rfl ?_
            refine r_dup (d := mX3_matches) (pc := 102) dX3_matches_102 ?_
            refine r_getIs (d := mX3_matches) (pc := 103) (a := 52) (kd := 3) (j := 3) (x := (T 52 3)) dX3_matches_103 flRX3_23 ly52 (by decide) (by decide) rfl (rfl) ?_
            refine r_iconst (d := mX3_matches) (pc := 106) (n := 1) dX3_matches_106 ?_
            refine r_iadd (d := mX3_matches) (pc := 107) dX3_matches_107 ?_
            refine r_putIs (d := mX3_matches) (pc := 108) (a := 52) (kd := 3) (j := 3) (lay0, mUp T 52 3 ((T 52 3) + 1), P) dX3_matches_108 flRX3_23 ly52 (by decide) (by decide) rfl rfl (Or.inl rfl) rfl ?_
            refine r_goto (d := mX3_matches) (pc := 111) (tgt := 116) dX3_matches_111 (by decide) ?_
            refine r_iinc (d := mX3_matches) (pc := 116) (i := 4) (v := p) (y := (p + 1)) (lv' := [(0, .inr (some 52)), (1, .inr (some (1000 + i))), (2, .inl fr), (3, .inl c), (4, .inl (p + 1)), (5, .inl (chS i p))]) dX3_matches_116 rfl (by decide) rfl rfl rfl ?_
            refine r_goto (d := mX3_matches) (pc := 119) (tgt := 10) dX3_matches_119 (by decide) ?_
            refine WP.pick (lv' := [(0, .inr (some 52)), (1, .inr (some (1000 + i))), (2, .inl fr), (3, .inl c), (4, .inl (p + 1))]) [0, 1, 2, 3, 4] rfl ?_
            exact wpE (by simp) rfl (by rfl) (ih10 (f - 1) (by omega) (mUp T 52 3 (T 52 3 + 1)) c (p + 1) (xt_3 hTT _) (by omega) (by omega) hc3 (by rw [xt_33]; omega) (by rw [hd]; conv => lhs; rw [show f = (f - 1) + 1 by omega, mxL, if_neg (by omega), if_pos (by omega)]))
        · have hq64 : chS i p = 64 ∨ chS i p = 35 := by omega
          have T59 : WP (k + 4) mX3_matches none (0, 0) (Rt (some (.inl (bI ((mtR I i fr).1 = true)))) (lay0, (mtR I i fr).2, P)) 59 [(0, .inr (some 52)), (1, .inr (some (1000 + i))), (2, .inl fr), (3, .inl c), (4, .inl p), (5, .inl (chS i p))] [.inl (rdV T (chS i p))] (lay0, rdI T (chS i p), P) := by
            refine r_istore (d := mX3_matches) (pc := 59) (i := 6) (lv' := [(0, .inr (some 52)), (1, .inr (some (1000 + i))), (2, .inl fr), (3, .inl c), (4, .inl p), (5, .inl (chS i p)), (6, .inl (rdV T (chS i p)))]) dX3_matches_59 (by decide) rfl rfl ?_
            refine r_iload (d := mX3_matches) (pc := 61) (i := 6) (v := (rdV T (chS i p))) dX3_matches_61 rfl ?_
            refine r_iconst (d := mX3_matches) (pc := 63) (n := (-1)) dX3_matches_63 ?_
            refine r_icmp_eq (d := mX3_matches) (pc := 64) (tgt := 72) dX3_matches_64 (by decide) (fun h64 => ?_) (fun h64 => ?_)
            · have hfin : mtR I i fr = (false, rdI T (chS i p)) := by rw [hd, show f = (f - 1) + 1 by omega, mxL, if_pos hq64, if_pos (by omega)]
              refine r_iconst (d := mX3_matches) (pc := 72) (n := 0) dX3_matches_72 ?_
              exact r_zret (d := mX3_matches) (pc := 73) dX3_matches_73 rfl (Or.inl rfl) (rtI (by first | exact (bI_t (by rw [hfin])).symm | exact (bI_f (by rw [hfin]; simp)).symm) (by refine memE ?_; rw [hfin])) (by decide) (by decide)
            · refine r_iload_n (d := mX3_matches) (pc := 67) (i := 3) (v := c) dX3_matches_67 rfl rfl ?_
              refine r_iconst (d := mX3_matches) (pc := 68) (n := 3) dX3_matches_68 ?_
              refine r_icmp_lt (d := mX3_matches) (pc := 69) (tgt := 74) dX3_matches_69 (by decide) (fun h69 => ?_) (fun h69 => ?_)
              · refine r_aload_n (d := mX3_matches) (pc := 74) (i := 0) (v := 52) dX3_matches_74 rfl rfl ?_
                refine r_getRs (d := mX3_matches) (pc := 75) (a := 52) (kd := 3) (j := 2) (x := 54) dX3_matches_75 flRX3_19 ly52 (by decide) (by decide) rfl hX.2 ?_
                refine r_iload_n (d := mX3_matches) (pc := 78) (i := 3) (v := c) dX3_matches_78 rfl rfl ?_
                refine r_iload (d := mX3_matches) (pc := 79) (i := 6) (v := (rdV T (chS i p))) dX3_matches_79 rfl ?_
                refine r_iasts (d := mX3_matches) (pc := 81) (a := 54) (lay0, mUp (rdI T (chS i p)) 54 c (rdV T (chS i p)), P) dX3_matches_81 ly54 (by omega) (by omega) rfl ?_
                refine r_iinc (d := mX3_matches) (pc := 82) (i := 3) (v := c) (y := (c + 1)) (lv' := [(0, .inr (some 52)), (1, .inr (some (1000 + i))), (2, .inl fr), (3, .inl (c + 1)), (4, .inl p), (5, .inl (chS i p)), (6, .inl (rdV T (chS i p)))]) dX3_matches_82 rfl (by decide) rfl rfl rfl ?_
                refine r_goto (d := mX3_matches) (pc := 85) (tgt := 116) dX3_matches_85 (by decide) ?_
                refine r_iinc (d := mX3_matches) (pc := 116) (i := 4) (v := p) (y := (p + 1)) (lv' := [(0, .inr (some 52)), (1, .inr (some (1000 + i))), (2, .inl fr), (3, .inl (c + 1)), (4, .inl (p + 1)), (5, .inl (chS i p)), (6, .inl (rdV T (chS i p)))]) dX3_matches_116 rfl (by decide) rfl rfl rfl ?_
                refine r_goto (d := mX3_matches) (pc := 119) (tgt := 10) dX3_matches_119 (by decide) ?_
                refine WP.pick (lv' := [(0, .inr (some 52)), (1, .inr (some (1000 + i))), (2, .inl fr), (3, .inl (c + 1)), (4, .inl (p + 1))]) [0, 1, 2, 3, 4] rfl ?_
                exact wpE (by simp) rfl (by rfl) (ih10 (f - 1) (by omega) (mUp (rdI T (chS i p)) 54 c (rdV T (chS i p))) (c + 1) (p + 1) (xt_54 hrd.1 _ _) (by omega) (by omega) (by omega) (by rw [xt_543]; omega) (by rw [hd]; conv => lhs; rw [show f = (f - 1) + 1 by omega, mxL, if_pos hq64, if_neg (by omega)]))
              · have hfin : mtR I i fr = (false, rdI T (chS i p)) := by rw [hd, show f = (f - 1) + 1 by omega, mxL, if_pos hq64, if_pos (by omega)]
                refine r_iconst (d := mX3_matches) (pc := 72) (n := 0) dX3_matches_72 ?_
                exact r_zret (d := mX3_matches) (pc := 73) dX3_matches_73 rfl (Or.inl rfl) (rtI (by first | exact (bI_t (by rw [hfin])).symm | exact (bI_f (by rw [hfin]; simp)).symm) (by refine memE ?_; rw [hfin])) (by decide) (by decide)
          refine r_iload (d := mX3_matches) (pc := 41) (i := 5) (v := chS i p) dX3_matches_41 rfl ?_
          refine r_bipush (d := mX3_matches) (pc := 43) (n := 64) dX3_matches_43 ?_
          refine r_icmp_ne (d := mX3_matches) (pc := 45) (tgt := 55) dX3_matches_45 (by decide) (fun h45 => ?_) (fun h45 => ?_)
          · refine r_aload_n (d := mX3_matches) (pc := 55) (i := 0) (v := 52) dX3_matches_55 rfl rfl ?_
            refine r_cV0 (d := mX3_matches) (pc := 56) (dj := mX3_readNumber) (a := 52) (kd := 3) dX3_matches_56 mlRX3_64 inX3_readNumber selX3_readNumber rfl ly52 (by decide) okX3_readNumber (by decide) rfl (Nat.le_of_ble_eq_true rfl) (by decide) (by decide) (Fn_X3_readNumber (k + 2) T P hX hTT (by omega)) ?_
            exact wpE (by rfl) (by first | (exfalso; omega) | (rw [rdV]; first | (rw [if_pos (by omega)] <;> rfl) | (rw [if_neg (by omega)] <;> rfl))) (by first | (exfalso; omega) | (refine memE ?_; rw [rdI]; first | rw [if_pos (by omega)] | rw [if_neg (by omega)])) T59
          · refine r_aload_n (d := mX3_matches) (pc := 48) (i := 0) (v := 52) dX3_matches_48 rfl rfl ?_
            refine r_cV0 (d := mX3_matches) (pc := 49) (dj := mX3_readName) (a := 52) (kd := 3) dX3_matches_49 mlRX3_61 inX3_readName selX3_readName rfl ly52 (by decide) okX3_readName (by decide) rfl (Nat.le_of_ble_eq_true rfl) (by decide) (by decide) (Fn_X3_readName (k + 2) T P hX hTT (by omega)) ?_
            refine r_goto (d := mX3_matches) (pc := 52) (tgt := 59) dX3_matches_52 (by decide) ?_
            exact wpE (by rfl) (by first | (exfalso; omega) | (rw [rdV]; first | (rw [if_pos (by omega)] <;> rfl) | (rw [if_neg (by omega)] <;> rfl))) (by first | (exfalso; omega) | (refine memE ?_; rw [rdI]; first | rw [if_pos (by omega)] | rw [if_neg (by omega)])) T59
  exact wpE (by simp) rfl (by rfl) (L10 (sLen.getD i 0) (mUp I 52 3 fr) 0 0 (xt_3 hT _) (by omega) (by omega) (by omega) (by rw [xt_33]; omega) rfl)
