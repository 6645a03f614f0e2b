/-! ===== the text of the program: a command is read ===== -/
theorem mx_ok (i : Nat) (f : Nat) : ∀ (T : mIt) (c p : Int), XtOK T → XtOK (mxL i f T c p).2 := by
  induction f with
  | zero => intro T c p h; exact h
  | succ f ih =>
    intro T c p h
    unfold mxL
    split
    · split
      · exact (rd_ok h _).1
      · exact ih _ _ _ (xt_54 (rd_ok h _).1 _ _)
    · split
      · exact ih _ _ _ (xt_3 h _)
      · exact h
theorem mt_ok {T : mIt} (h : XtOK T) (i : Nat) (fr : Int) : XtOK (mtR T i fr).2 := mx_ok i _ _ 0 0 (xt_3 h fr)
def rcL (fr : Int) : Nat → mIt → Int → Int × mIt
  | 0, T, _ => (-1, T)
  | f + 1, T, w => if (mtR T (fmK w) fr).1 = true then (w, (mtR T (fmK w) fr).2) else rcL fr f (mtR T (fmK w) fr).2 (w + 1)
def rcR (I : mIt) (fr : Int) : Int × mIt := rcL fr 9 I 0
set_option maxRecDepth 20000 in
set_option maxHeartbeats 4000000 in
theorem Fn_X3_readCommand (k : Nat) (I : mIt) (P : mPt) (hX : isTx P) (hT : XtOK I) (fr : Int) (hf0 : 0 ≤ fr) (hf1 : fr ≤ 200) : WP (k + 5) mX3_readCommand none (0, 0) (Rt (some (.inl ((rcR I fr).1))) (lay0, (rcR I fr).2, P)) 0 [(0, .inr (some 52)), (1, .inl fr)] [] (lay0, I, P) := by
  refine r_iconst (d := mX3_readCommand) (pc := 0) (n := 0) dX3_readCommand_0 ?_
  refine r_istore_n (d := mX3_readCommand) (pc := 1) (i := 2) (lv' := [(0, .inr (some 52)), (1, .inl fr), (2, .inl 0)]) dX3_readCommand_1 rfl (by decide) rfl rfl ?_
  have L2 : ∀ f : Nat, ∀ (T : mIt) (w : Int), XtOK T → (f : Int) + w = 9 → 0 ≤ w → rcR I fr = rcL fr f T w → WP (k + 5) mX3_readCommand none (0, 0) (Rt (some (.inl ((rcR I fr).1))) (lay0, (rcR I fr).2, P)) 2 [(0, .inr (some 52)), (1, .inl fr), (2, .inl w)] [] (lay0, T, P) := by
    refine loopD _ (fun f ih2 T w hTT hfw hw0 hd => ?_)
    refine r_iload_n (d := mX3_readCommand) (pc := 2) (i := 2) (v := w) dX3_readCommand_2 rfl rfl ?_
    refine r_bipush (d := mX3_readCommand) (pc := 3) (n := 9) dX3_readCommand_3 ?_
    refine r_icmp_ge (d := mX3_readCommand) (pc := 5) (tgt := 28) dX3_readCommand_5 (by decide) (fun h5 => ?_) (fun h5 => ?_)
    · have hfin : rcR I fr = (-1, T) := by rw [hd, show f = 0 by omega]; rfl
      refine r_iconst (d := mX3_readCommand) (pc := 28) (n := (-1)) dX3_readCommand_28 ?_
      exact r_iret (d := mX3_readCommand) (pc := 29) dX3_readCommand_29 rfl (rtI (by rw [hfin]) (by refine memE ?_; rw [hfin])) (by decide) (by decide)
    · refine r_aload_n (d := mX3_readCommand) (pc := 8) (i := 0) (v := 52) dX3_readCommand_8 rfl rfl ?_
      refine r_iload_n (d := mX3_readCommand) (pc := 9) (i := 2) (v := w) dX3_readCommand_9 rfl rfl ?_
      refine r_cS1 (d := mX3_readCommand) (pc := 10) (dj := mX3_form) dX3_readCommand_10 mlRX3_26 staX3_form okX3_form (by decide) rfl (Nat.le_of_ble_eq_true rfl) (by decide) (by decide) (Fn_X3_form (k + 4) T P w) ?_
      refine r_iload_n (d := mX3_readCommand) (pc := 13) (i := 1) (v := fr) dX3_readCommand_13 rfl rfl ?_
      refine r_cV2 (d := mX3_readCommand) (pc := 14) (dj := mX3_matches) (a := 52) (kd := 3) dX3_readCommand_14 mlRX3_30 inX3_matches selX3_matches rfl ly52 (by decide) okX3_matches (by decide) rfl (Nat.le_of_ble_eq_true rfl) (by decide) (by decide) (Fn_X3_matches k T P hX hTT (fmK w) (fmK_lt _) fr hf0 hf1) ?_
      refine r_ifb_eq (d := mX3_readCommand) (pc := 17) (tgt := 22) dX3_readCommand_17 (by decide) (fun h17 => ?_) (fun h17 => ?_)
      · refine r_iinc (d := mX3_readCommand) (pc := 22) (i := 2) (v := w) (y := (w + 1)) (lv' := [(0, .inr (some 52)), (1, .inl fr), (2, .inl (w + 1))]) dX3_readCommand_22 rfl (by decide) rfl rfl rfl ?_
        refine r_goto (d := mX3_readCommand) (pc := 25) (tgt := 2) dX3_readCommand_25 (by decide) ?_
        exact wpE (by simp) rfl (by rfl) (ih2 (f - 1) (by omega) ((mtR T (fmK w) fr).2) (w + 1) (mt_ok hTT _ _) (by omega) (by omega) (by rw [hd]; conv => lhs; rw [show f = (f - 1) + 1 by omega, rcL, if_neg h17]))
      · have hfin : rcR I fr = (w, (mtR T (fmK w) fr).2) := by rw [hd, show f = (f - 1) + 1 by omega, rcL, if_pos h17]
        refine r_iload_n (d := mX3_readCommand) (pc := 20) (i := 2) (v := w) dX3_readCommand_20 rfl rfl ?_
        exact r_iret (d := mX3_readCommand) (pc := 21) dX3_readCommand_21 rfl (rtI (by rw [hfin]) (by refine memE ?_; rw [hfin])) (by decide) (by decide)
  exact wpE (by simp) rfl (by rfl) (L2 9 I 0 hT (by omega) (by omega) rfl)
