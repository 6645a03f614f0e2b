/-! ===== the model: a text is played ===== -/
def skF : Nat → mIt → mIt
  | 0, I => I
  | f + 1, I => if atB I 97 122 = true then skF f (mUp I 155 9 (I 155 9 + 1)) else I
theorem skF_ok (f : Nat) : ∀ I : mIt, TxOK I → TxOK (skF f I) := by
  induction f with
  | zero => intro I h; exact h
  | succ f ih =>
    intro I h
    unfold skF
    split
    · rename_i h2
      exact ih _ (tx_9 h (at_lt h2).1)
    · exact h
theorem skF_x (f : Nat) : ∀ (I : mIt) (x : Nat) (j : Int), (x ≠ 155 ∨ j ≠ 9) → skF f I x j = I x j := by
  induction f with
  | zero => intro I x j h; rfl
  | succ f ih =>
    intro I x j h
    unfold skF
    split
    · rw [ih _ x j h]
      simp only [mUp, fset]
      by_cases hx : x = 155
      · subst hx; simp; exact fset_ne _ _ (by omega)
      · simp [hx]
    · rfl
theorem up9_7 (U : mIt) (v : Int) : mUp U 155 9 v 155 7 = U 155 7 := by simp [mUp, fset]
theorem up9_9 (U : mIt) (v : Int) : mUp U 155 9 v 155 9 = v := by simp [mUp, fset]
theorem plZ_7 (I : mIt) : mUp (mUp (mUp (mUp I 155 5 1) 155 9 0) 155 11 0) 155 10 0 155 7 = I 155 7 := by simp [mUp, fset]
theorem plZ_9 (I : mIt) : mUp (mUp (mUp (mUp I 155 5 1) 155 9 0) 155 11 0) 155 10 0 155 9 = 0 := by simp [mUp, fset]
def plA (I : mIt) : mIt := skF 80 I
def plW (I : mIt) : Int := wdV (plA I) (I 155 9)
def plK (I : mIt) : Bool := decide (0 ≤ plW I) && fqB (plA I) (plW I)
def plB (I : mIt) : mIt := if plW I < 0 then plA I else fqI (plA I) (plW I)
def plR (I : mIt) : Int := if plK I = true then doV (plB I) (plW I) else -4
def plC (I : mIt) : mIt := if plK I = true then doI (plB I) (plW I) else plB I
def plS (I : mIt) : mIt := mUp (mUp (plC I) 155 10 (if plR I < 0 then plR I else 0)) 155 11 (plC I 155 11 + 1)
/-- what a step asks for -/
def StOK (I : mIt) : Prop := TxOK I ∧ (plK I = true → DoOK (plB I)) ∧ (0 ≤ plC I 155 11 ∧ plC I 155 11 ≤ 1000) ∧ (plS I 155 10 ≠ 0 ∨ I 155 9 < plS I 155 9) ∧ plS I 155 7 = I 155 7
def plL : Nat → mIt → Int → mIt × Int
  | 0, I, x => (I, x)
  | f + 1, I, x => if I 155 9 < I 155 7 ∧ I 155 10 = 0 then plL f (plS I) (I 155 9) else (I, x)
def plZ (I : mIt) : mIt := mUp (mUp (mUp (mUp I 155 5 1) 155 9 0) 155 11 0) 155 10 0
def plX (I : mIt) : mIt × Int := plL 80 (plZ I) 0
def plI (I : mIt) : mIt := mUp (plX I).1 155 5 0
def plV (I : mIt) : Int := if (plX I).1 155 10 = 0 then -4 else (plX I).2
set_option maxRecDepth 20000 in
set_option maxHeartbeats 4000000 in
theorem Fn_X6_plays (k : Nat) (I : mIt) (P : mPt) (hM : isMd P) (hty : I 155 7 ≤ 80) (Inv : mIt → Prop) (hz : Inv (plZ I)) (hst : ∀ T : mIt, Inv T → TxOK T ∧ (T 155 9 < T 155 7 → T 155 10 = 0 → StOK T ∧ Inv (plS T))) : WP (k + 9) mX6_plays none (0, 0) (Rt (some (.inl (plV I))) (lay0, plI I, P)) 0 [(0, .inr (some 155))] [] (lay0, I, P) := by
  refine r_aload_n (d := mX6_plays) (pc := 0) (i := 0) (v := 155) dX6_plays_0 rfl rfl ?_
  refine r_iconst (d := mX6_plays) (pc := 1) (n := 1) dX6_plays_1 ?_
  refine r_putIs (d := mX6_plays) (pc := 2) (a := 155) (kd := 6) (j := 5) (lay0, mUp I 155 5 1, P) dX6_plays_2 flRX6_35 ly155 (by decide) (by decide) rfl rfl (Or.inr ⟨rfl, by decide⟩) rfl ?_
  refine r_aload_n (d := mX6_plays) (pc := 5) (i := 0) (v := 155) dX6_plays_5 rfl rfl ?_
  refine r_iconst (d := mX6_plays) (pc := 6) (n := 0) dX6_plays_6 ?_
  refine r_putIs (d := mX6_plays) (pc := 7) (a := 155) (kd := 6) (j := 9) (lay0, mUp (mUp I 155 5 1) 155 9 0, P) dX6_plays_7 flRX6_138 ly155 (by decide) (by decide) rfl rfl (Or.inl rfl) rfl ?_
  refine r_aload_n (d := mX6_plays) (pc := 10) (i := 0) (v := 155) dX6_plays_10 rfl rfl ?_
  refine r_iconst (d := mX6_plays) (pc := 11) (n := 0) dX6_plays_11 ?_
  refine r_putIs (d := mX6_plays) (pc := 12) (a := 155) (kd := 6) (j := 11) (lay0, mUp (mUp (mUp I 155 5 1) 155 9 0) 155 11 0, P) dX6_plays_12 flRX6_181 ly155 (by decide) (by decide) rfl rfl (Or.inl rfl) rfl ?_
  refine r_aload_n (d := mX6_plays) (pc := 15) (i := 0) (v := 155) dX6_plays_15 rfl rfl ?_
  refine r_iconst (d := mX6_plays) (pc := 16) (n := 0) dX6_plays_16 ?_
  refine r_putIs (d := mX6_plays) (pc := 17) (a := 155) (kd := 6) (j := 10) (lay0, mUp (mUp (mUp (mUp I 155 5 1) 155 9 0) 155 11 0) 155 10 0, P) dX6_plays_17 flRX6_184 ly155 (by decide) (by decide) rfl rfl (Or.inl rfl) rfl ?_
  refine r_iconst (d := mX6_plays) (pc := 20) (n := 0) dX6_plays_20 ?_
  refine r_istore_n (d := mX6_plays) (pc := 21) (i := 1) (lv' := [(0, .inr (some 155)), (1, .inl 0)]) dX6_plays_21 rfl (by decide) rfl rfl ?_
  have L22 : ∀ f : Nat, ∀ (T : mIt) (x : Int), Inv T → (T 155 10 ≠ 0 ∨ T 155 7 - T 155 9 ≤ (f : Int)) → plX I = plL f T x → WP (k + 9) mX6_plays none (0, 0) (Rt (some (.inl (plV I))) (lay0, plI I, P)) 22 [(0, .inr (some 155)), (1, .inl x)] [] (lay0, T, P) := by
    refine loopD _ (fun f ih22 T x hIT hmf hd => ?_)
    have hTT := (hst T hIT).1
    have ht1 := hTT.1
    have ht2 := hTT.2.1
    refine r_aload_n (d := mX6_plays) (pc := 22) (i := 0) (v := 155) dX6_plays_22 rfl rfl ?_
    refine r_getIs (d := mX6_plays) (pc := 23) (a := 155) (kd := 6) (j := 9) (x := (T 155 9)) dX6_plays_23 flRX6_138 ly155 (by decide) (by decide) rfl (rfl) ?_
    refine r_aload_n (d := mX6_plays) (pc := 26) (i := 0) (v := 155) dX6_plays_26 rfl rfl ?_
    refine r_getIs (d := mX6_plays) (pc := 27) (a := 155) (kd := 6) (j := 7) (x := (T 155 7)) dX6_plays_27 flRX6_135 ly155 (by decide) (by decide) rfl (rfl) ?_
    refine r_icmp_ge (d := mX6_plays) (pc := 30) (tgt := 124) dX6_plays_30 (by decide) (fun h30 => ?_) (fun h30 => ?_)
    · have hfin : plX I = (T, x) := by
        rw [hd]
        rcases Nat.eq_zero_or_pos f with q | q
        · rw [q]; rfl
        · rw [show f = (f - 1) + 1 by omega, plL, if_neg (by omega)]
      refine r_aload_n (d := mX6_plays) (pc := 124) (i := 0) (v := 155) dX6_plays_124 rfl rfl ?_
      refine r_iconst (d := mX6_plays) (pc := 125) (n := 0) dX6_plays_125 ?_
      refine r_putIs (d := mX6_plays) (pc := 126) (a := 155) (kd := 6) (j := 5) (lay0, mUp T 155 5 0, P) dX6_plays_126 flRX6_35 ly155 (by decide) (by decide) rfl rfl (Or.inr ⟨rfl, by decide⟩) rfl ?_
      refine r_aload_n (d := mX6_plays) (pc := 129) (i := 0) (v := 155) dX6_plays_129 rfl rfl ?_
      refine r_getIs (d := mX6_plays) (pc := 130) (a := 155) (kd := 6) (j := 10) (x := (T 155 10)) dX6_plays_130 flRX6_184 ly155 (by decide) (by decide) rfl (by simp [mUp, cpy, fset]) ?_
      refine r_if_ne (d := mX6_plays) (pc := 133) (tgt := 141) dX6_plays_133 (by decide) (fun h133 => ?_) (fun h133 => ?_)
      · refine r_iload_n (d := mX6_plays) (pc := 141) (i := 1) (v := x) dX6_plays_141 rfl rfl ?_
        exact r_iret (d := mX6_plays) (pc := 142) dX6_plays_142 rfl (rtI (by rw [plV, hfin]; repeat (first | rw [if_pos (by first | assumption | omega)] | rw [if_neg (by first | assumption | omega)])) (by refine memE ?_; rw [plI, hfin])) (by decide) (by decide)
      · refine r_bipush (d := mX6_plays) (pc := 136) (n := (-4)) dX6_plays_136 ?_
        refine r_goto (d := mX6_plays) (pc := 138) (tgt := 142) dX6_plays_138 (by decide) ?_
        exact r_iret (d := mX6_plays) (pc := 142) dX6_plays_142 rfl (rtI (by rw [plV, hfin]; repeat (first | rw [if_pos (by first | assumption | omega)] | rw [if_neg (by first | assumption | omega)])) (by refine memE ?_; rw [plI, hfin])) (by decide) (by decide)
    · refine r_aload_n (d := mX6_plays) (pc := 33) (i := 0) (v := 155) dX6_plays_33 rfl rfl ?_
      refine r_getIs (d := mX6_plays) (pc := 34) (a := 155) (kd := 6) (j := 10) (x := (T 155 10)) dX6_plays_34 flRX6_184 ly155 (by decide) (by decide) rfl (rfl) ?_
      refine r_if_ne (d := mX6_plays) (pc := 37) (tgt := 124) dX6_plays_37 (by decide) (fun h37 => ?_) (fun h37 => ?_)
      · have hfin : plX I = (T, x) := by
          rw [hd]
          rcases Nat.eq_zero_or_pos f with q | q
          · rw [q]; rfl
          · rw [show f = (f - 1) + 1 by omega, plL, if_neg (by omega)]
        refine r_aload_n (d := mX6_plays) (pc := 124) (i := 0) (v := 155) dX6_plays_124 rfl rfl ?_
        refine r_iconst (d := mX6_plays) (pc := 125) (n := 0) dX6_plays_125 ?_
        refine r_putIs (d := mX6_plays) (pc := 126) (a := 155) (kd := 6) (j := 5) (lay0, mUp T 155 5 0, P) dX6_plays_126 flRX6_35 ly155 (by decide) (by decide) rfl rfl (Or.inr ⟨rfl, by decide⟩) rfl ?_
        refine r_aload_n (d := mX6_plays) (pc := 129) (i := 0) (v := 155) dX6_plays_129 rfl rfl ?_
        refine r_getIs (d := mX6_plays) (pc := 130) (a := 155) (kd := 6) (j := 10) (x := (T 155 10)) dX6_plays_130 flRX6_184 ly155 (by decide) (by decide) rfl (by simp [mUp, cpy, fset]) ?_
        refine r_if_ne (d := mX6_plays) (pc := 133) (tgt := 141) dX6_plays_133 (by decide) (fun h133 => ?_) (fun h133 => ?_)
        · refine r_iload_n (d := mX6_plays) (pc := 141) (i := 1) (v := x) dX6_plays_141 rfl rfl ?_
          exact r_iret (d := mX6_plays) (pc := 142) dX6_plays_142 rfl (rtI (by rw [plV, hfin]; repeat (first | rw [if_pos (by first | assumption | omega)] | rw [if_neg (by first | assumption | omega)])) (by refine memE ?_; rw [plI, hfin])) (by decide) (by decide)
        · refine r_bipush (d := mX6_plays) (pc := 136) (n := (-4)) dX6_plays_136 ?_
          refine r_goto (d := mX6_plays) (pc := 138) (tgt := 142) dX6_plays_138 (by decide) ?_
          exact r_iret (d := mX6_plays) (pc := 142) dX6_plays_142 rfl (rtI (by rw [plV, hfin]; repeat (first | rw [if_pos (by first | assumption | omega)] | rw [if_neg (by first | assumption | omega)])) (by refine memE ?_; rw [plI, hfin])) (by decide) (by decide)
      · have hSI := (hst T hIT).2 (by omega) (by omega)
        have hSO := hSI.1
        have hSC := hSO.2.2.1
        have hpa : TxOK (plA T) := skF_ok 80 T hTT
        refine r_aload_n (d := mX6_plays) (pc := 40) (i := 0) (v := 155) dX6_plays_40 rfl rfl ?_
        refine r_getIs (d := mX6_plays) (pc := 41) (a := 155) (kd := 6) (j := 9) (x := (T 155 9)) dX6_plays_41 flRX6_138 ly155 (by decide) (by decide) rfl (rfl) ?_
        refine r_istore_n (d := mX6_plays) (pc := 44) (i := 1) (lv' := [(0, .inr (some 155)), (1, .inl (T 155 9))]) dX6_plays_44 rfl (by decide) rfl rfl ?_
        have L45 : ∀ g : Nat, ∀ (U : mIt), TxOK U → U 155 7 - U 155 9 ≤ (g : Int) → skF 80 T = skF g U → WP (k + 9) mX6_plays none (0, 0) (Rt (some (.inl (plV I))) (lay0, plI I, P)) 45 [(0, .inr (some 155)), (1, .inl (T 155 9))] [] (lay0, U, P) := by
          refine loopD _ (fun g ih45 U hUU hmg hd2 => ?_)
          have hu1 := hUU.1
          have hu2 := hUU.2.1
          refine r_aload_n (d := mX6_plays) (pc := 45) (i := 0) (v := 155) dX6_plays_45 rfl rfl ?_
          refine r_bipush (d := mX6_plays) (pc := 46) (n := 97) dX6_plays_46 ?_
          refine r_bipush (d := mX6_plays) (pc := 48) (n := 122) dX6_plays_48 ?_
          refine r_cV2 (d := mX6_plays) (pc := 50) (dj := mX6_isAt) (a := 155) (kd := 6) dX6_plays_50 mlRX6_145 inX6_isAt selX6_isAt rfl ly155 (by decide) okX6_isAt (by decide) rfl (Nat.le_of_ble_eq_true rfl) (by decide) (by decide) (Fn_X6_isAt (k + 7) U P hM (by repeat (first | exact hT | apply rn_ok | apply nu_ok | apply pa_ok | assumption)) 97 122) ?_
          refine r_ifb_eq (d := mX6_plays) (pc := 53) (tgt := 69) dX6_plays_53 (by decide) (fun h53 => ?_) (fun h53 => ?_)
          · refine r_aload_n (d := mX6_plays) (pc := 69) (i := 0) (v := 155) dX6_plays_69 rfl rfl ?_
            have hU : plA T = U := by
              rw [plA, hd2]
              rcases Nat.eq_zero_or_pos g with q | q
              · rw [q]; rfl
              · rw [show g = (g - 1) + 1 by omega, skF, if_neg h53]
            rw [← hU]
            refine r_iload_n (d := mX6_plays) (pc := 70) (i := 1) (v := (T 155 9)) dX6_plays_70 rfl rfl ?_
            refine r_cV1 (d := mX6_plays) (pc := 71) (dj := mX6_wordAt) (a := 155) (kd := 6) dX6_plays_71 mlRX6_187 inX6_wordAt selX6_wordAt rfl ly155 (by decide) okX6_wordAt (by decide) rfl (Nat.le_of_ble_eq_true rfl) (by decide) (by decide) (Fn_X6_wordAt (k + 6) (plA T) P hM (by repeat (first | exact hT | apply rn_ok | apply nu_ok | apply pa_ok | assumption)) (T 155 9) (by omega) (by omega)) ?_
            change WP _ _ _ _ _ _ _ [.inl (plW T)] _
            have T97 : WP (k + 9) mX6_plays none (0, 0) (Rt (some (.inl (plV I))) (lay0, plI I, P)) 97 [(0, .inr (some 155)), (1, .inl (T 155 9)), (2, .inl (plW T))] [.inl (plR T)] (lay0, plC T, P) := by
              refine r_istore_n (d := mX6_plays) (pc := 97) (i := 3) (lv' := [(0, .inr (some 155)), (1, .inl (T 155 9)), (2, .inl (plW T)), (3, .inl (plR T))]) dX6_plays_97 rfl (by decide) rfl rfl ?_
              refine r_aload_n (d := mX6_plays) (pc := 98) (i := 0) (v := 155) dX6_plays_98 rfl rfl ?_
              refine r_iload_n (d := mX6_plays) (pc := 99) (i := 3) (v := (plR T)) dX6_plays_99 rfl rfl ?_
              refine r_if_ge (d := mX6_plays) (pc := 100) (tgt := 107) dX6_plays_100 (by decide) (fun h100 => ?_) (fun h100 => ?_)
              · refine r_iconst (d := mX6_plays) (pc := 107) (n := 0) dX6_plays_107 ?_
                refine r_putIs (d := mX6_plays) (pc := 108) (a := 155) (kd := 6) (j := 10) (lay0, mUp (plC T) 155 10 0, P) dX6_plays_108 flRX6_184 ly155 (by decide) (by decide) rfl rfl (Or.inl rfl) rfl ?_
                refine r_aload_n (d := mX6_plays) (pc := 111) (i := 0) (v := 155) dX6_plays_111 rfl rfl ?_
                refine r_dup (d := mX6_plays) (pc := 112) dX6_plays_112 ?_
                refine r_getIs (d := mX6_plays) (pc := 113) (a := 155) (kd := 6) (j := 11) (x := ((plC T) 155 11)) dX6_plays_113 flRX6_181 ly155 (by decide) (by decide) rfl (by simp [mUp, cpy, fset]) ?_
                refine r_iconst (d := mX6_plays) (pc := 116) (n := 1) dX6_plays_116 ?_
                refine r_iadd (d := mX6_plays) (pc := 117) dX6_plays_117 ?_
                refine r_putIs (d := mX6_plays) (pc := 118) (a := 155) (kd := 6) (j := 11) (lay0, mUp (mUp (plC T) 155 10 0) 155 11 (((plC T) 155 11) + 1), P) dX6_plays_118 flRX6_181 ly155 (by decide) (by decide) rfl rfl (Or.inl rfl) rfl ?_
                refine r_goto (d := mX6_plays) (pc := 121) (tgt := 22) dX6_plays_121 (by decide) ?_
                refine WP.pick (lv' := [(0, .inr (some 155)), (1, .inl (T 155 9))]) [0, 1] rfl ?_
                exact wpE (by simp) rfl (by refine memE ?_; rw [plS, if_neg (by omega)]) (ih22 (f - 1) (by omega) (plS T) (T 155 9) hSI.2 (by have q1 := hSO.2.2.2.1; have q2 := hSO.2.2.2.2; omega) (by rw [hd]; conv => lhs; rw [show f = (f - 1) + 1 by omega, plL, if_pos (by omega)]))
              · refine r_iload_n (d := mX6_plays) (pc := 103) (i := 3) (v := (plR T)) dX6_plays_103 rfl rfl ?_
                refine r_goto (d := mX6_plays) (pc := 104) (tgt := 108) dX6_plays_104 (by decide) ?_
                refine r_putIs (d := mX6_plays) (pc := 108) (a := 155) (kd := 6) (j := 10) (lay0, mUp (plC T) 155 10 (plR T), P) dX6_plays_108 flRX6_184 ly155 (by decide) (by decide) rfl rfl (Or.inl rfl) rfl ?_
                refine r_aload_n (d := mX6_plays) (pc := 111) (i := 0) (v := 155) dX6_plays_111 rfl rfl ?_
                refine r_dup (d := mX6_plays) (pc := 112) dX6_plays_112 ?_
                refine r_getIs (d := mX6_plays) (pc := 113) (a := 155) (kd := 6) (j := 11) (x := ((plC T) 155 11)) dX6_plays_113 flRX6_181 ly155 (by decide) (by decide) rfl (by simp [mUp, cpy, fset]) ?_
                refine r_iconst (d := mX6_plays) (pc := 116) (n := 1) dX6_plays_116 ?_
                refine r_iadd (d := mX6_plays) (pc := 117) dX6_plays_117 ?_
                refine r_putIs (d := mX6_plays) (pc := 118) (a := 155) (kd := 6) (j := 11) (lay0, mUp (mUp (plC T) 155 10 (plR T)) 155 11 (((plC T) 155 11) + 1), P) dX6_plays_118 flRX6_181 ly155 (by decide) (by decide) rfl rfl (Or.inl rfl) rfl ?_
                refine r_goto (d := mX6_plays) (pc := 121) (tgt := 22) dX6_plays_121 (by decide) ?_
                refine WP.pick (lv' := [(0, .inr (some 155)), (1, .inl (T 155 9))]) [0, 1] rfl ?_
                exact wpE (by simp) rfl (by refine memE ?_; rw [plS, if_pos (by omega)]) (ih22 (f - 1) (by omega) (plS T) (T 155 9) hSI.2 (by have q1 := hSO.2.2.2.1; have q2 := hSO.2.2.2.2; omega) (by rw [hd]; conv => lhs; rw [show f = (f - 1) + 1 by omega, plL, if_pos (by omega)]))
            refine r_istore_n (d := mX6_plays) (pc := 74) (i := 2) (lv' := [(0, .inr (some 155)), (1, .inl (T 155 9)), (2, .inl (plW T))]) dX6_plays_74 rfl (by decide) rfl rfl ?_
            refine r_iload_n (d := mX6_plays) (pc := 75) (i := 2) (v := (plW T)) dX6_plays_75 rfl rfl ?_
            refine r_if_lt (d := mX6_plays) (pc := 76) (tgt := 87) dX6_plays_76 (by decide) (fun h76 => ?_) (fun h76 => ?_)
            · have hk : ¬ plK T = true := by
                intro q
                simp only [plK, Bool.and_eq_true, decide_eq_true_eq] at q
                first | omega | exact h84 q.2
              refine r_bipush (d := mX6_plays) (pc := 87) (n := (-4)) dX6_plays_87 ?_
              refine r_goto (d := mX6_plays) (pc := 89) (tgt := 97) dX6_plays_89 (by decide) ?_
              exact wpE (by rfl) (by rw [plR]; first | (rw [if_neg hk] <;> rfl) | (rw [if_pos hk, plB, if_neg (by omega)] <;> rfl)) (by refine memE ?_; rw [plC]; first | (rw [if_neg hk, plB, if_pos (by omega)]; done) | (rw [if_neg hk, plB, if_neg (by omega)]; done) | rw [if_pos hk, plB, if_neg (by omega)]) T97
            · refine r_aload_n (d := mX6_plays) (pc := 79) (i := 0) (v := 155) dX6_plays_79 rfl rfl ?_
              refine r_iload_n (d := mX6_plays) (pc := 80) (i := 2) (v := (plW T)) dX6_plays_80 rfl rfl ?_
              refine r_cV1 (d := mX6_plays) (pc := 81) (dj := mX6_isForm) (a := 155) (kd := 6) dX6_plays_81 mlRX6_190 inX6_isForm selX6_isForm rfl ly155 (by decide) okX6_isForm (by decide) rfl (Nat.le_of_ble_eq_true rfl) (by decide) (by decide) (Fn_X6_isForm (k + 4) (plA T) P hM (by repeat (first | exact hT | apply rn_ok | apply nu_ok | apply pa_ok | assumption)) (plW T)) ?_
              refine r_ifb_ne (d := mX6_plays) (pc := 84) (tgt := 92) dX6_plays_84 (by decide) (fun h84 => ?_) (fun h84 => ?_)
              · have hk : plK T = true := by
                  simp only [plK, Bool.and_eq_true, decide_eq_true_eq]
                  exact ⟨by omega, h84⟩
                have hdo : DoOK (fqI (plA T) (plW T)) := by
                  have z := hSO.2.1 hk
                  rw [plB, if_neg (by omega)] at z
                  exact z
                refine r_aload_n (d := mX6_plays) (pc := 92) (i := 0) (v := 155) dX6_plays_92 rfl rfl ?_
                refine r_iload_n (d := mX6_plays) (pc := 93) (i := 2) (v := (plW T)) dX6_plays_93 rfl rfl ?_
                refine r_cV1 (d := mX6_plays) (pc := 94) (dj := mX6_does) (a := 155) (kd := 6) dX6_plays_94 mlRX6_193 inX6_does selX6_does rfl ly155 (by decide) okX6_does (by decide) rfl (Nat.le_of_ble_eq_true rfl) (by decide) (by decide) (Fn_X6_does k (fqI (plA T) (plW T)) P hM hdo (plW T)) ?_
                exact wpE (by rfl) (by rw [plR]; first | (rw [if_neg hk] <;> rfl) | (rw [if_pos hk, plB, if_neg (by omega)] <;> rfl)) (by refine memE ?_; rw [plC]; first | (rw [if_neg hk, plB, if_pos (by omega)]; done) | (rw [if_neg hk, plB, if_neg (by omega)]; done) | rw [if_pos hk, plB, if_neg (by omega)]) T97
              · have hk : ¬ plK T = true := by
                  intro q
                  simp only [plK, Bool.and_eq_true, decide_eq_true_eq] at q
                  first | omega | exact h84 q.2
                refine r_bipush (d := mX6_plays) (pc := 87) (n := (-4)) dX6_plays_87 ?_
                refine r_goto (d := mX6_plays) (pc := 89) (tgt := 97) dX6_plays_89 (by decide) ?_
                exact wpE (by rfl) (by rw [plR]; first | (rw [if_neg hk] <;> rfl) | (rw [if_pos hk, plB, if_neg (by omega)] <;> rfl)) (by refine memE ?_; rw [plC]; first | (rw [if_neg hk, plB, if_pos (by omega)]; done) | (rw [if_neg hk, plB, if_neg (by omega)]; done) | rw [if_pos hk, plB, if_neg (by omega)]) T97
          · refine r_aload_n (d := mX6_plays) (pc := 56) (i := 0) (v := 155) dX6_plays_56 rfl rfl ?_
            refine r_dup (d := mX6_plays) (pc := 57) dX6_plays_57 ?_
            refine r_getIs (d := mX6_plays) (pc := 58) (a := 155) (kd := 6) (j := 9) (x := (U 155 9)) dX6_plays_58 flRX6_138 ly155 (by decide) (by decide) rfl (rfl) ?_
            refine r_iconst (d := mX6_plays) (pc := 61) (n := 1) dX6_plays_61 ?_
            refine r_iadd (d := mX6_plays) (pc := 62) dX6_plays_62 ?_
            refine r_putIs (d := mX6_plays) (pc := 63) (a := 155) (kd := 6) (j := 9) (lay0, mUp U 155 9 ((U 155 9) + 1), P) dX6_plays_63 flRX6_138 ly155 (by decide) (by decide) rfl rfl (Or.inl rfl) rfl ?_
            refine r_goto (d := mX6_plays) (pc := 66) (tgt := 45) dX6_plays_66 (by decide) ?_
            exact wpE (by simp) rfl (by rfl) (ih45 (g - 1) (by have := at_lt h53; omega) (mUp U 155 9 (U 155 9 + 1)) (tx_9 hUU (at_lt h53).1) (by have h1 := (at_lt h53).1; rw [up9_7, up9_9]; omega) (by rw [hd2]; conv => lhs; rw [show g = (g - 1) + 1 by have := (at_lt h53).1; omega, skF, if_pos h53]))
        exact wpE (by simp) rfl (by rfl) (L45 80 T hTT (by omega) rfl)
  exact wpE (by simp) rfl (by rfl) (L22 80 (plZ I) 0 hz (by right; unfold plZ; rw [plZ_7, plZ_9]; omega) rfl)
