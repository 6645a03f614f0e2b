/-! ===== the program's own class: what is there, what would be, texts ===== -/
def noI (I : mIt) (p c w : Int) : mIt := mUp (mUp (mUp I 0 5 p) 0 6 c) 0 7 w
def t5C (T : mIt) (p : Int) : Int := (rcR T p).1
def t5K (T : mIt) (p : Int) : mIt := (rcR T p).2
def t5V (t : Nat) (T : mIt) (p : Int) : Int := pfV (t5K T p) t (nR (t5K T p) t) (mR (t5K T p) t) (cR (t5K T p) t) (t5C T p) (t5K T p 54 0) (t5K T p 54 1) (t5K T p 54 2)
def t5L (t : Nat) (T : mIt) (p : Int) : mIt := pfI (t5K T p) t (nR (t5K T p) t) (mR (t5K T p) t) (cR (t5K T p) t) (t5C T p) (t5K T p 54 0) (t5K T p 54 1) (t5K T p 54 2)
def ttL (t : Nat) : Nat → mIt → Int → Int → mIt × Int
  | 0, T, c, _ => (T, c)
  | f + 1, T, c, p => if p < T 52 1 then (if t5C T p = -1 then (noI (t5K T p) p 1 0, c) else if t5V t T p < 0 then (noI (t5L t T p) p 2 (t5V t T p), c) else ttL t f (t5L t T p) (c + 1) (t5L t T p 52 3)) else (T, c)
def ttZ (I : mIt) (r t : Nat) : mIt := noI (rbI I t r) (-1) 0 0
def ttR (I : mIt) (r t : Nat) : mIt × Int := ttL t 80 (ttZ I r t) 0 0
def TtOK (I : mIt) (r t : Nat) : Prop := ∃ Inv : mIt → Int → Prop, Inv (ttZ I r t) 0 ∧ ∀ T : mIt, ∀ p : Int, Inv T p → XtOK T ∧ (0 ≤ p ∧ p ≤ 200) ∧ (p < T 52 1 → t5C T p ≠ -1 → RoOK (t5K T p) t ∧ (¬ t5V t T p < 0 → Inv (t5L t T p) (t5L t T p 52 3)))
def ftV (I : mIt) (r t : Nat) (w : Int) : Int := if ¬ (0 ≤ w ∧ w ≤ 2) then -1 else if (ttR I r t).1 0 6 = 0 then -4 else if w = 0 then (ttR I r t).1 0 5 else if w = 1 then (ttR I r t).1 0 6 else if (ttR I r t).1 0 6 = 1 then -4 else (ttR I r t).1 0 7
def ftI (I : mIt) (r t : Nat) (w : Int) : mIt := if ¬ (0 ≤ w ∧ w ≤ 2) then I else (ttR I r t).1
def p5V (I : mIt) (r t : Nat) : Int := if (ttR I r t).1 0 6 = 0 then (ttR I r t).2 else -2
set_option maxRecDepth 20000 in
set_option maxHeartbeats 4000000 in
theorem Fn_X5_markOf (k : Nat) (I : mIt) (P : mPt) (r t : Nat) (h : Int → Nat) (hC : isCn P r t h) (hO : RoOK I r) (m : Int) (n : Int) (w : Int) : WP (k + 3) mX5_markOf none (0, 0) (Rt (some (.inl (tmV I r m n w))) (lay0, I, P)) 0 [(0, .inr (some 0)), (1, .inl m), (2, .inl n), (3, .inl w)] [] (lay0, I, P) := by
  refine r_aload_n (d := mX5_markOf) (pc := 0) (i := 0) (v := 0) dX5_markOf_0 rfl rfl ?_
  refine r_getRs (d := mX5_markOf) (pc := 1) (a := 0) (kd := 5) (j := 0) (x := r) dX5_markOf_1 flRX5_10 ly0 (by decide) (by decide) rfl hC.1.1 ?_
  refine r_iload_n (d := mX5_markOf) (pc := 4) (i := 1) (v := m) dX5_markOf_4 rfl rfl ?_
  refine r_iload_n (d := mX5_markOf) (pc := 5) (i := 2) (v := n) dX5_markOf_5 rfl rfl ?_
  refine r_iload_n (d := mX5_markOf) (pc := 6) (i := 3) (v := w) dX5_markOf_6 rfl rfl ?_
  refine r_cV3 (d := mX5_markOf) (pc := 7) (dj := mX2_tellMark) (a := r) (kd := 2) dX5_markOf_7 mlRX5_81 inX2_tellMark selX2_tellMark rfl hC.2.2.1.1.1 (by decide) okX2_tellMark (by decide) rfl (Nat.le_of_ble_eq_true rfl) (by decide) (by decide) (Fn_X2_tellMark k I P r hC.2.2.1 m n w) ?_
  exact r_iret (d := mX5_markOf) (pc := 10) dX5_markOf_10 rfl (rtI (by rfl) (by rfl)) (by decide) (by decide)
set_option maxRecDepth 20000 in
set_option maxHeartbeats 4000000 in
theorem Fn_X5_nameOf (k : Nat) (I : mIt) (P : mPt) (r t : Nat) (h : Int → Nat) (hC : isCn P r t h) (hO : RoOK I r) (n : Int) (w : Int) : WP (k + 4) mX5_nameOf none (0, 0) (Rt (some (.inl (tnV I r n w))) (lay0, I, P)) 0 [(0, .inr (some 0)), (1, .inl n), (2, .inl w)] [] (lay0, I, P) := by
  refine r_aload_n (d := mX5_nameOf) (pc := 0) (i := 0) (v := 0) dX5_nameOf_0 rfl rfl ?_
  refine r_getRs (d := mX5_nameOf) (pc := 1) (a := 0) (kd := 5) (j := 0) (x := r) dX5_nameOf_1 flRX5_10 ly0 (by decide) (by decide) rfl hC.1.1 ?_
  refine r_iload_n (d := mX5_nameOf) (pc := 4) (i := 1) (v := n) dX5_nameOf_4 rfl rfl ?_
  refine r_iload_n (d := mX5_nameOf) (pc := 5) (i := 2) (v := w) dX5_nameOf_5 rfl rfl ?_
  refine r_cV2 (d := mX5_nameOf) (pc := 6) (dj := mX2_tellName) (a := r) (kd := 2) dX5_nameOf_6 mlRX5_85 inX2_tellName selX2_tellName rfl hC.2.2.1.1.1 (by decide) okX2_tellName (by decide) rfl (Nat.le_of_ble_eq_true rfl) (by decide) (by decide) (Fn_X2_tellName k I P r hC.2.2.1 n w) ?_
  exact r_iret (d := mX5_nameOf) (pc := 9) dX5_nameOf_9 rfl (rtI (by rfl) (by rfl)) (by decide) (by decide)
set_option maxRecDepth 20000 in
set_option maxHeartbeats 4000000 in
theorem Fn_X5_chairOf (k : Nat) (I : mIt) (P : mPt) (r t : Nat) (h : Int → Nat) (hC : isCn P r t h) (hO : RoOK I r) (c : Int) (w : Int) : WP (k + 3) mX5_chairOf none (0, 0) (Rt (some (.inl (tcV I r (nR I r) (mR I r) (cR I r) c w))) (lay0, I, P)) 0 [(0, .inr (some 0)), (1, .inl c), (2, .inl w)] [] (lay0, I, P) := by
  refine r_aload_n (d := mX5_chairOf) (pc := 0) (i := 0) (v := 0) dX5_chairOf_0 rfl rfl ?_
  refine r_getRs (d := mX5_chairOf) (pc := 1) (a := 0) (kd := 5) (j := 0) (x := r) dX5_chairOf_1 flRX5_10 ly0 (by decide) (by decide) rfl hC.1.1 ?_
  refine r_iload_n (d := mX5_chairOf) (pc := 4) (i := 1) (v := c) dX5_chairOf_4 rfl rfl ?_
  refine r_iload_n (d := mX5_chairOf) (pc := 5) (i := 2) (v := w) dX5_chairOf_5 rfl rfl ?_
  refine r_cV2 (d := mX5_chairOf) (pc := 6) (dj := mX2_tellChair) (a := r) (kd := 2) dX5_chairOf_6 mlRX5_88 inX2_tellChair selX2_tellChair rfl hC.2.2.1.1.1 (by decide) okX2_tellChair (by decide) rfl (Nat.le_of_ble_eq_true rfl) (by decide) (by decide) (Fn_X2_tellChair k I P r hC.2.2.1 _ hO.1.1 hO.1.2 _ hO.2.1.1 hO.2.1.2 _ hO.2.2.1.1 hO.2.2.1.2 c w) ?_
  exact r_iret (d := mX5_chairOf) (pc := 9) dX5_chairOf_9 rfl (rtI (by rfl) (by rfl)) (by decide) (by decide)
set_option maxRecDepth 20000 in
set_option maxHeartbeats 4000000 in
theorem Fn_X5_orderOf (k : Nat) (I : mIt) (P : mPt) (r t : Nat) (h : Int → Nat) (hC : isCn P r t h) (hO : RoOK I r) (ht : 0 ≤ I r 1 ∧ I r 1 ≤ 60000) (hk : ∀ c, -2000000 ≤ kOf (I (r + 7)) c ∧ kOf (I (r + 7)) c ≤ 2000000) (x : Int) (w : Int) : WP (k + 3) mX5_orderOf none (0, 0) (Rt (some (.inl (toV I r x w))) (lay0, I, P)) 0 [(0, .inr (some 0)), (1, .inl x), (2, .inl w)] [] (lay0, I, P) := by
  refine r_aload_n (d := mX5_orderOf) (pc := 0) (i := 0) (v := 0) dX5_orderOf_0 rfl rfl ?_
  refine r_getRs (d := mX5_orderOf) (pc := 1) (a := 0) (kd := 5) (j := 0) (x := r) dX5_orderOf_1 flRX5_10 ly0 (by decide) (by decide) rfl hC.1.1 ?_
  refine r_iload_n (d := mX5_orderOf) (pc := 4) (i := 1) (v := x) dX5_orderOf_4 rfl rfl ?_
  refine r_iload_n (d := mX5_orderOf) (pc := 5) (i := 2) (v := w) dX5_orderOf_5 rfl rfl ?_
  refine r_cV2 (d := mX5_orderOf) (pc := 6) (dj := mX2_tellOrder) (a := r) (kd := 2) dX5_orderOf_6 mlRX5_91 inX2_tellOrder selX2_tellOrder rfl hC.2.2.1.1.1 (by decide) okX2_tellOrder (by decide) rfl (Nat.le_of_ble_eq_true rfl) (by decide) (by decide) (Fn_X2_tellOrder k I P r hC.2.2.1 ht hk x w) ?_
  exact r_iret (d := mX5_orderOf) (pc := 9) dX5_orderOf_9 rfl (rtI (by rfl) (by rfl)) (by decide) (by decide)
set_option maxRecDepth 20000 in
set_option maxHeartbeats 4000000 in
theorem Fn_X5_count (k : Nat) (I : mIt) (P : mPt) (r t : Nat) (h : Int → Nat) (hC : isCn P r t h) (hO : RoOK I r) (htk : 0 ≤ tkn I r (nR I r) (mR I r) ∧ tkn I r (nR I r) (mR I r) < 256) (w : Int) : WP (k + 4) mX5_count none (0, 0) (Rt (some (.inl (if w = 10 then I 0 3 else if w = 11 then I 52 1 else tuV I r (nR I r) (mR I r) (cR I r) w))) (lay0, I, P)) 0 [(0, .inr (some 0)), (1, .inl w)] [] (lay0, I, P) := by
  refine r_iload_n (d := mX5_count) (pc := 0) (i := 1) (v := w) dX5_count_0 rfl rfl ?_
  refine r_bipush (d := mX5_count) (pc := 1) (n := 10) dX5_count_1 ?_
  refine r_icmp_ne (d := mX5_count) (pc := 3) (tgt := 11) dX5_count_3 (by decide) (fun h3 => ?_) (fun h3 => ?_)
  · refine r_iload_n (d := mX5_count) (pc := 11) (i := 1) (v := w) dX5_count_11 rfl rfl ?_
    refine r_bipush (d := mX5_count) (pc := 12) (n := 11) dX5_count_12 ?_
    refine r_icmp_ne (d := mX5_count) (pc := 14) (tgt := 25) dX5_count_14 (by decide) (fun h14 => ?_) (fun h14 => ?_)
    · refine r_aload_n (d := mX5_count) (pc := 25) (i := 0) (v := 0) dX5_count_25 rfl rfl ?_
      refine r_getRs (d := mX5_count) (pc := 26) (a := 0) (kd := 5) (j := 0) (x := r) dX5_count_26 flRX5_10 ly0 (by decide) (by decide) rfl hC.1.1 ?_
      refine r_iload_n (d := mX5_count) (pc := 29) (i := 1) (v := w) dX5_count_29 rfl rfl ?_
      refine r_cV1 (d := mX5_count) (pc := 30) (dj := mX2_tellNumber) (a := r) (kd := 2) dX5_count_30 mlRX5_97 inX2_tellNumber selX2_tellNumber rfl hC.2.2.1.1.1 (by decide) okX2_tellNumber (by decide) rfl (Nat.le_of_ble_eq_true rfl) (by decide) (by decide) (Fn_X2_tellNumber k I P r hC.2.2.1 _ hO.1.1 hO.1.2 _ hO.2.1.1 hO.2.1.2 _ hO.2.2.1.1 hO.2.2.1.2 htk w) ?_
      exact r_iret (d := mX5_count) (pc := 33) dX5_count_33 rfl (rtI (by first | (rw [if_pos (by omega)]; done) | (rw [if_neg (by omega), if_pos (by omega)]; done) | (rw [if_neg (by omega), if_neg (by omega)]; done)) (by rfl)) (by decide) (by decide)
    · refine r_aload_n (d := mX5_count) (pc := 17) (i := 0) (v := 0) dX5_count_17 rfl rfl ?_
      refine r_getRs (d := mX5_count) (pc := 18) (a := 0) (kd := 5) (j := 4) (x := 52) dX5_count_18 flRX5_30 ly0 (by decide) (by decide) rfl hC.1.2.2.2 ?_
      refine r_getIs (d := mX5_count) (pc := 21) (a := 52) (kd := 3) (j := 1) (x := (I 52 1)) dX5_count_21 flRX5_94 ly52 (by decide) (by decide) rfl (rfl) ?_
      exact r_iret (d := mX5_count) (pc := 24) dX5_count_24 rfl (rtI (by first | (rw [if_pos (by omega)]; done) | (rw [if_neg (by omega), if_pos (by omega)]; done) | (rw [if_neg (by omega), if_neg (by omega)]; done)) (by rfl)) (by decide) (by decide)
  · refine r_aload_n (d := mX5_count) (pc := 6) (i := 0) (v := 0) dX5_count_6 rfl rfl ?_
    refine r_getIs (d := mX5_count) (pc := 7) (a := 0) (kd := 5) (j := 3) (x := (I 0 3)) dX5_count_7 flRX5_23 ly0 (by decide) (by decide) rfl (rfl) ?_
    exact r_iret (d := mX5_count) (pc := 10) dX5_count_10 rfl (rtI (by first | (rw [if_pos (by omega)]; done) | (rw [if_neg (by omega), if_pos (by omega)]; done) | (rw [if_neg (by omega), if_neg (by omega)]; done)) (by rfl)) (by decide) (by decide)
set_option maxRecDepth 20000 in
set_option maxHeartbeats 4000000 in
theorem Fn_X5_sends (k : Nat) (I : mIt) (P : mPt) (r t : Nat) (h : Int → Nat) (hC : isCn P r t h) (hO : RoOK (rbI I t r) t) (n x y : Int) (hs : mI ((goM (rbI I t r) t (nR (rbI I t r) t) (mR (rbI I t r) t) (cR (rbI I t r) t) 0 n x y) t 3 - (goM (rbI I t r) t (nR (rbI I t r) t) (mR (rbI I t r) t) (cR (rbI I t r) t) 0 n x y) r 3)) : WP (k + 4) mX5_sends none (0, 0) (Rt (some (.inl (if (goV (rbI I t r) t (nR (rbI I t r) t) (mR (rbI I t r) t) (cR (rbI I t r) t) 0 n x y) < 0 ∧ (goV (rbI I t r) t (nR (rbI I t r) t) (mR (rbI I t r) t) (cR (rbI I t r) t) 0 n x y) ≠ -3 then (goV (rbI I t r) t (nR (rbI I t r) t) (mR (rbI I t r) t) (cR (rbI I t r) t) 0 n x y) else (goM (rbI I t r) t (nR (rbI I t r) t) (mR (rbI I t r) t) (cR (rbI I t r) t) 0 n x y) t 3 - (goM (rbI I t r) t (nR (rbI I t r) t) (mR (rbI I t r) t) (cR (rbI I t r) t) 0 n x y) r 3))) (lay0, (goM (rbI I t r) t (nR (rbI I t r) t) (mR (rbI I t r) t) (cR (rbI I t r) t) 0 n x y), P)) 0 [(0, .inr (some 0)), (1, .inl n), (2, .inl x), (3, .inl y)] [] (lay0, I, P) := by
  refine r_aload_n (d := mX5_sends) (pc := 0) (i := 0) (v := 0) dX5_sends_0 rfl rfl ?_
  refine r_cV0 (d := mX5_sends) (pc := 1) (dj := mX5_spareRoom) (a := 0) (kd := 5) dX5_sends_1 mlRX5_43 inX5_spareRoom selX5_spareRoom rfl ly0 (by decide) okX5_spareRoom (by decide) rfl (Nat.le_of_ble_eq_true rfl) (by decide) (by decide) (Fn_X5_spareRoom (k + 1) I P r t h hC) ?_
  refine r_astore (d := mX5_sends) (pc := 4) (i := 4) (lv' := [(0, .inr (some 0)), (1, .inl n), (2, .inl x), (3, .inl y), (4, .inr (some t))]) dX5_sends_4 (by decide) rfl rfl ?_
  refine r_aload (d := mX5_sends) (pc := 6) (i := 4) (v := t) dX5_sends_6 rfl ?_
  refine r_iconst (d := mX5_sends) (pc := 8) (n := 0) dX5_sends_8 ?_
  refine r_iload_n (d := mX5_sends) (pc := 9) (i := 1) (v := n) dX5_sends_9 rfl rfl ?_
  refine r_iload_n (d := mX5_sends) (pc := 10) (i := 2) (v := x) dX5_sends_10 rfl rfl ?_
  refine r_iload_n (d := mX5_sends) (pc := 11) (i := 3) (v := y) dX5_sends_11 rfl rfl ?_
  refine r_cV4 (d := mX5_sends) (pc := 12) (dj := mX2_giveOrder) (a := t) (kd := 2) dX5_sends_12 mlRX5_61 inX2_giveOrder selX2_giveOrder rfl hC.2.2.2.1.1.1 (by decide) okX2_giveOrder (by decide) rfl (Nat.le_of_ble_eq_true rfl) (by decide) (by decide) (Fn_X2_giveOrder k (rbI I t r) P t hC.2.2.2.1 _ hO.1.1 hO.1.2 _ hO.2.1.1 hO.2.1.2 _ hO.2.2.1.1 hO.2.2.1.2 hO.2.2.2.1 hO.2.2.2.2.1.2.2.1 hO.2.2.2.2.1.2.2.2.1 hO.2.2.2.2.1.2.2.2.2 hO.2.2.2.2.2 0 n x y) ?_
  refine r_istore (d := mX5_sends) (pc := 15) (i := 5) (lv' := [(0, .inr (some 0)), (1, .inl n), (2, .inl x), (3, .inl y), (4, .inr (some t)), (5, .inl (goV (rbI I t r) t (nR (rbI I t r) t) (mR (rbI I t r) t) (cR (rbI I t r) t) 0 n x y))]) dX5_sends_15 (by decide) rfl rfl ?_
  refine r_iload (d := mX5_sends) (pc := 17) (i := 5) (v := goV (rbI I t r) t (nR (rbI I t r) t) (mR (rbI I t r) t) (cR (rbI I t r) t) 0 n x y) dX5_sends_17 rfl ?_
  refine r_if_ge (d := mX5_sends) (pc := 19) (tgt := 32) dX5_sends_19 (by decide) (fun h19 => ?_) (fun h19 => ?_)
  · refine r_aload (d := mX5_sends) (pc := 32) (i := 4) (v := t) dX5_sends_32 rfl ?_
    refine r_getIs (d := mX5_sends) (pc := 34) (a := t) (kd := 2) (j := 3) (x := ((goM (rbI I t r) t (nR (rbI I t r) t) (mR (rbI I t r) t) (cR (rbI I t r) t) 0 n x y) t 3)) dX5_sends_34 flRX5_100 hC.2.2.2.1.1.1 (by decide) (by decide) rfl (rfl) ?_
    refine r_aload_n (d := mX5_sends) (pc := 37) (i := 0) (v := 0) dX5_sends_37 rfl rfl ?_
    refine r_getRs (d := mX5_sends) (pc := 38) (a := 0) (kd := 5) (j := 0) (x := r) dX5_sends_38 flRX5_10 ly0 (by decide) (by decide) rfl hC.1.1 ?_
    refine r_getIs (d := mX5_sends) (pc := 41) (a := r) (kd := 2) (j := 3) (x := ((goM (rbI I t r) t (nR (rbI I t r) t) (mR (rbI I t r) t) (cR (rbI I t r) t) 0 n x y) r 3)) dX5_sends_41 flRX5_100 hC.2.2.1.1.1 (by decide) (by decide) rfl (rfl) ?_
    refine r_isub (d := mX5_sends) (pc := 44) dX5_sends_44 ?_ (hs)
    exact r_iret (d := mX5_sends) (pc := 45) dX5_sends_45 rfl (rtI (by first | (rw [if_pos (by omega)]; done) | (rw [if_neg (by omega)]; done)) (by rfl)) (by decide) (by decide)
  · refine r_iload (d := mX5_sends) (pc := 22) (i := 5) (v := goV (rbI I t r) t (nR (rbI I t r) t) (mR (rbI I t r) t) (cR (rbI I t r) t) 0 n x y) dX5_sends_22 rfl ?_
    refine r_bipush (d := mX5_sends) (pc := 24) (n := (-3)) dX5_sends_24 ?_
    refine r_icmp_eq (d := mX5_sends) (pc := 26) (tgt := 32) dX5_sends_26 (by decide) (fun h26 => ?_) (fun h26 => ?_)
    · refine r_aload (d := mX5_sends) (pc := 32) (i := 4) (v := t) dX5_sends_32 rfl ?_
      refine r_getIs (d := mX5_sends) (pc := 34) (a := t) (kd := 2) (j := 3) (x := ((goM (rbI I t r) t (nR (rbI I t r) t) (mR (rbI I t r) t) (cR (rbI I t r) t) 0 n x y) t 3)) dX5_sends_34 flRX5_100 hC.2.2.2.1.1.1 (by decide) (by decide) rfl (rfl) ?_
      refine r_aload_n (d := mX5_sends) (pc := 37) (i := 0) (v := 0) dX5_sends_37 rfl rfl ?_
      refine r_getRs (d := mX5_sends) (pc := 38) (a := 0) (kd := 5) (j := 0) (x := r) dX5_sends_38 flRX5_10 ly0 (by decide) (by decide) rfl hC.1.1 ?_
      refine r_getIs (d := mX5_sends) (pc := 41) (a := r) (kd := 2) (j := 3) (x := ((goM (rbI I t r) t (nR (rbI I t r) t) (mR (rbI I t r) t) (cR (rbI I t r) t) 0 n x y) r 3)) dX5_sends_41 flRX5_100 hC.2.2.1.1.1 (by decide) (by decide) rfl (rfl) ?_
      refine r_isub (d := mX5_sends) (pc := 44) dX5_sends_44 ?_ (hs)
      exact r_iret (d := mX5_sends) (pc := 45) dX5_sends_45 rfl (rtI (by first | (rw [if_pos (by omega)]; done) | (rw [if_neg (by omega)]; done)) (by rfl)) (by decide) (by decide)
    · refine r_iload (d := mX5_sends) (pc := 29) (i := 5) (v := goV (rbI I t r) t (nR (rbI I t r) t) (mR (rbI I t r) t) (cR (rbI I t r) t) 0 n x y) dX5_sends_29 rfl ?_
      exact r_iret (d := mX5_sends) (pc := 31) dX5_sends_31 rfl (rtI (by first | (rw [if_pos (by omega)]; done) | (rw [if_neg (by omega)]; done)) (by rfl)) (by decide) (by decide)
set_option maxRecDepth 20000 in
set_option maxHeartbeats 4000000 in
theorem Fn_X5_idleIn (k : Nat) (I : mIt) (P : mPt) (r t : Nat) (h : Int → Nat) (hC : isCn P r t h) (hO : RoOK (rbI I t r) t) : WP (k + 4) mX5_idleIn none (0, 0) (Rt (some (.inl ((idV (rbI I t r) t (nR (rbI I t r) t) : Nat) : Int))) (lay0, (tks (rbI I t r) t (nR (rbI I t r) t) (idV (rbI I t r) t (nR (rbI I t r) t))).1, P)) 0 [(0, .inr (some 0))] [] (lay0, I, P) := by
  refine r_aload_n (d := mX5_idleIn) (pc := 0) (i := 0) (v := 0) dX5_idleIn_0 rfl rfl ?_
  refine r_cV0 (d := mX5_idleIn) (pc := 1) (dj := mX5_spareRoom) (a := 0) (kd := 5) dX5_idleIn_1 mlRX5_43 inX5_spareRoom selX5_spareRoom rfl ly0 (by decide) okX5_spareRoom (by decide) rfl (Nat.le_of_ble_eq_true rfl) (by decide) (by decide) (Fn_X5_spareRoom (k + 1) I P r t h hC) ?_
  refine r_cV0 (d := mX5_idleIn) (pc := 4) (dj := mX2_ticksTillIdle) (a := t) (kd := 2) dX5_idleIn_4 mlRX5_103 inX2_ticksTillIdle selX2_ticksTillIdle rfl hC.2.2.2.1.1.1 (by decide) okX2_ticksTillIdle (by decide) rfl (Nat.le_of_ble_eq_true rfl) (by decide) (by decide) (Fn_X2_ticksTillIdle k (rbI I t r) P t hC.2.2.2.1 _ hO.1.1 hO.1.2 hO.2.2.2.1 (by have := hO.2.2.2.2.1.1; omega) hO.2.2.2.2.1.2.1) ?_
  exact r_iret (d := mX5_idleIn) (pc := 7) dX5_idleIn_7 rfl (rtI (by rfl) (by rfl)) (by decide) (by decide)
set_option maxRecDepth 20000 in
set_option maxHeartbeats 4000000 in
theorem Fn_X5_knownIn (k : Nat) (I : mIt) (P : mPt) (r t : Nat) (h : Int → Nat) (hC : isCn P r t h) (hO : RoOK (rbI I t r) t) (n : Int) : WP (k + 4) mX5_knownIn none (0, 0) (Rt (some (.inl (if 0 ≤ n ∧ n ≤ 7 then ((knV (rbI I t r) t (nR (rbI I t r) t) n : Nat) : Int) else -1))) (lay0, (if 0 ≤ n ∧ n ≤ 7 then (tks (rbI I t r) t (nR (rbI I t r) t) (knV (rbI I t r) t (nR (rbI I t r) t) n)).1 else I), P)) 0 [(0, .inr (some 0)), (1, .inl n)] [] (lay0, I, P) := by
  refine r_iload_n (d := mX5_knownIn) (pc := 0) (i := 1) (v := n) dX5_knownIn_0 rfl rfl ?_
  refine r_cS1 (d := mX5_knownIn) (pc := 1) (dj := mX5_isName) dX5_knownIn_1 mlRX5_106 staX5_isName okX5_isName (by decide) rfl (Nat.le_of_ble_eq_true rfl) (by decide) (by decide) (Fn_X5_isName (k + 2) I P n) ?_
  refine r_ifb_ne (d := mX5_knownIn) (pc := 4) (tgt := 9) dX5_knownIn_4 (by decide) (fun h4 => ?_) (fun h4 => ?_)
  · refine r_aload_n (d := mX5_knownIn) (pc := 9) (i := 0) (v := 0) dX5_knownIn_9 rfl rfl ?_
    refine r_cV0 (d := mX5_knownIn) (pc := 10) (dj := mX5_spareRoom) (a := 0) (kd := 5) dX5_knownIn_10 mlRX5_43 inX5_spareRoom selX5_spareRoom rfl ly0 (by decide) okX5_spareRoom (by decide) rfl (Nat.le_of_ble_eq_true rfl) (by decide) (by decide) (Fn_X5_spareRoom (k + 1) I P r t h hC) ?_
    refine r_iload_n (d := mX5_knownIn) (pc := 13) (i := 1) (v := n) dX5_knownIn_13 rfl rfl ?_
    refine r_cV1 (d := mX5_knownIn) (pc := 14) (dj := mX2_ticksTillKnown) (a := t) (kd := 2) dX5_knownIn_14 mlRX5_110 inX2_ticksTillKnown selX2_ticksTillKnown rfl hC.2.2.2.1.1.1 (by decide) okX2_ticksTillKnown (by decide) rfl (Nat.le_of_ble_eq_true rfl) (by decide) (by decide) (Fn_X2_ticksTillKnown k (rbI I t r) P t hC.2.2.2.1 _ hO.1.1 hO.1.2 hO.2.2.2.1 (by have := hO.2.2.2.2.1.1; omega) hO.2.2.2.2.1.2.1 n (by omega) (by omega)) ?_
    exact r_iret (d := mX5_knownIn) (pc := 17) dX5_knownIn_17 rfl (rtI (by first | (rw [if_pos (by omega)]; done) | (rw [if_neg (by omega)]; done)) (by refine memE ?_; first | (rw [if_pos (by omega)]; done) | (rw [if_neg (by omega)]; done))) (by decide) (by decide)
  · refine r_iconst (d := mX5_knownIn) (pc := 7) (n := (-1)) dX5_knownIn_7 ?_
    exact r_iret (d := mX5_knownIn) (pc := 8) dX5_knownIn_8 rfl (rtI (by first | (rw [if_pos (by omega)]; done) | (rw [if_neg (by omega)]; done)) (by refine memE ?_; first | (rw [if_pos (by omega)]; done) | (rw [if_neg (by omega)]; done))) (by decide) (by decide)
set_option maxRecDepth 20000 in
set_option maxHeartbeats 4000000 in
theorem Fn_X5_type (k : Nat) (I : mIt) (P : mPt) (r t : Nat) (h : Int → Nat) (hC : isCn P r t h) (hX : isTx P) (c : Int) : WP (k + 1) mX5_type none (0, 0) (Rt (some (.inl (if 32 ≤ c ∧ c ≤ 126 then apV I else -1))) (lay0, (if 32 ≤ c ∧ c ≤ 126 then apI I c else I), P)) 0 [(0, .inr (some 0)), (1, .inl c)] [] (lay0, I, P) := by
  refine r_iload_n (d := mX5_type) (pc := 0) (i := 1) (v := c) dX5_type_0 rfl rfl ?_
  refine r_bipush (d := mX5_type) (pc := 1) (n := 32) dX5_type_1 ?_
  refine r_bipush (d := mX5_type) (pc := 3) (n := 126) dX5_type_3 ?_
  refine r_cS3 (d := mX5_type) (pc := 5) (dj := mX5_within) dX5_type_5 mlRX5_113 staX5_within okX5_within (by decide) rfl (Nat.le_of_ble_eq_true rfl) (by decide) (by decide) (Fn_X5_within k I P c 32 126) ?_
  refine r_ifb_ne (d := mX5_type) (pc := 8) (tgt := 13) dX5_type_8 (by decide) (fun h8 => ?_) (fun h8 => ?_)
  · refine r_aload_n (d := mX5_type) (pc := 13) (i := 0) (v := 0) dX5_type_13 rfl rfl ?_
    refine r_getRs (d := mX5_type) (pc := 14) (a := 0) (kd := 5) (j := 4) (x := 52) dX5_type_14 flRX5_30 ly0 (by decide) (by decide) rfl hC.1.2.2.2 ?_
    refine r_iload_n (d := mX5_type) (pc := 17) (i := 1) (v := c) dX5_type_17 rfl rfl ?_
    refine r_i2c (d := mX5_type) (pc := 18) dX5_type_18 (by omega) (by omega) ?_
    refine r_cV1 (d := mX5_type) (pc := 19) (dj := mX3_append) (a := 52) (kd := 3) dX5_type_19 mlRX5_117 inX3_append selX3_append rfl ly52 (by decide) okX3_append (by decide) rfl (Nat.le_of_ble_eq_true rfl) (by decide) (by decide) (Fn_X3_append k I P hX c (by omega) (by omega)) ?_
    exact r_iret (d := mX5_type) (pc := 22) dX5_type_22 rfl (rtI (by first | (rw [if_pos (by omega)]; done) | (rw [if_neg (by omega)]; done)) (by refine memE ?_; first | (rw [if_pos (by omega)]; done) | (rw [if_neg (by omega)]; done))) (by decide) (by decide)
  · refine r_iconst (d := mX5_type) (pc := 11) (n := (-1)) dX5_type_11 ?_
    exact r_iret (d := mX5_type) (pc := 12) dX5_type_12 rfl (rtI (by first | (rw [if_pos (by omega)]; done) | (rw [if_neg (by omega)]; done)) (by refine memE ?_; first | (rw [if_pos (by omega)]; done) | (rw [if_neg (by omega)]; done))) (by decide) (by decide)
set_option maxRecDepth 20000 in
set_option maxHeartbeats 4000000 in
theorem Fn_X5_clearText (k : Nat) (I : mIt) (P : mPt) (r t : Nat) (h : Int → Nat) (hC : isCn P r t h) (hX : isTx P) : WP (k + 0) mX5_clearText none (0, 0) (Rt (some (.inl (I 52 1))) (lay0, mUp I 52 1 0, P)) 0 [(0, .inr (some 0))] [] (lay0, I, P) := by
  refine r_aload_n (d := mX5_clearText) (pc := 0) (i := 0) (v := 0) dX5_clearText_0 rfl rfl ?_
  refine r_getRs (d := mX5_clearText) (pc := 1) (a := 0) (kd := 5) (j := 4) (x := 52) dX5_clearText_1 flRX5_30 ly0 (by decide) (by decide) rfl hC.1.2.2.2 ?_
  refine r_getIs (d := mX5_clearText) (pc := 4) (a := 52) (kd := 3) (j := 1) (x := (I 52 1)) dX5_clearText_4 flRX5_94 ly52 (by decide) (by decide) rfl (rfl) ?_
  refine r_istore_n (d := mX5_clearText) (pc := 7) (i := 1) (lv' := [(0, .inr (some 0)), (1, .inl (I 52 1))]) dX5_clearText_7 rfl (by decide) rfl rfl ?_
  refine r_aload_n (d := mX5_clearText) (pc := 8) (i := 0) (v := 0) dX5_clearText_8 rfl rfl ?_
  refine r_getRs (d := mX5_clearText) (pc := 9) (a := 0) (kd := 5) (j := 4) (x := 52) dX5_clearText_9 flRX5_30 ly0 (by decide) (by decide) rfl hC.1.2.2.2 ?_
  refine r_iconst (d := mX5_clearText) (pc := 12) (n := 0) dX5_clearText_12 ?_
  refine r_putIs (d := mX5_clearText) (pc := 13) (a := 52) (kd := 3) (j := 1) (lay0, mUp I 52 1 0, P) dX5_clearText_13 flRX5_94 ly52 (by decide) (by decide) rfl rfl (Or.inl rfl) rfl ?_
  refine r_iload_n (d := mX5_clearText) (pc := 16) (i := 1) (v := (I 52 1)) dX5_clearText_16 rfl rfl ?_
  exact r_iret (d := mX5_clearText) (pc := 17) dX5_clearText_17 rfl (rtI (by rfl) (by rfl)) (by decide) (by decide)
set_option maxRecDepth 20000 in
set_option maxHeartbeats 4000000 in
theorem Fn_X5_tryText (k : Nat) (I : mIt) (P : mPt) (r t : Nat) (h : Int → Nat) (hC : isCn P r t h) (hX : isTx P) (hY : TtOK I r t) : WP (k + 6) mX5_tryText none (0, 0) (Rt (some (.inl ((ttR I r t).2))) (lay0, (ttR I r t).1, P)) 0 [(0, .inr (some 0))] [] (lay0, I, P) := by
  obtain ⟨Inv, hz, hst⟩ := hY
  refine r_aload_n (d := mX5_tryText) (pc := 0) (i := 0) (v := 0) dX5_tryText_0 rfl rfl ?_
  refine r_cV0 (d := mX5_tryText) (pc := 1) (dj := mX5_spareRoom) (a := 0) (kd := 5) dX5_tryText_1 mlRX5_43 inX5_spareRoom selX5_spareRoom rfl ly0 (by decide) okX5_spareRoom (by decide) rfl (Nat.le_of_ble_eq_true rfl) (by decide) (by decide) (Fn_X5_spareRoom (k + 3) I P r t h hC) ?_
  refine r_astore_n (d := mX5_tryText) (pc := 4) (i := 1) (lv' := [(0, .inr (some 0)), (1, .inr (some t))]) dX5_tryText_4 rfl (by decide) rfl rfl ?_
  refine r_iconst (d := mX5_tryText) (pc := 5) (n := 0) dX5_tryText_5 ?_
  refine r_istore_n (d := mX5_tryText) (pc := 6) (i := 2) (lv' := [(0, .inr (some 0)), (1, .inr (some t)), (2, .inl 0)]) dX5_tryText_6 rfl (by decide) rfl rfl ?_
  refine r_iconst (d := mX5_tryText) (pc := 7) (n := 0) dX5_tryText_7 ?_
  refine r_istore_n (d := mX5_tryText) (pc := 8) (i := 3) (lv' := [(0, .inr (some 0)), (1, .inr (some t)), (2, .inl 0), (3, .inl 0)]) dX5_tryText_8 rfl (by decide) rfl rfl ?_
  refine r_aload_n (d := mX5_tryText) (pc := 9) (i := 0) (v := 0) dX5_tryText_9 rfl rfl ?_
  refine r_iconst (d := mX5_tryText) (pc := 10) (n := (-1)) dX5_tryText_10 ?_
  refine r_iconst (d := mX5_tryText) (pc := 11) (n := 0) dX5_tryText_11 ?_
  refine r_iconst (d := mX5_tryText) (pc := 12) (n := 0) dX5_tryText_12 ?_
  refine r_cV3 (d := mX5_tryText) (pc := 13) (dj := mX5_noteFault) (a := 0) (kd := 5) dX5_tryText_13 mlRX5_128 inX5_noteFault selX5_noteFault rfl ly0 (by decide) okX5_noteFault (by decide) rfl (Nat.le_of_ble_eq_true rfl) (by decide) (by decide) (Fn_X5_noteFault (k + 5) (rbI I t r) P (-1) 0 0) ?_
  have L16 : ∀ f : Nat, ∀ (T : mIt) (c p : Int), Inv T p → (f : Int) + c = 80 → 0 ≤ c → ttR I r t = ttL t f T c p → WP (k + 6) mX5_tryText none (0, 0) (Rt (some (.inl ((ttR I r t).2))) (lay0, (ttR I r t).1, P)) 16 [(0, .inr (some 0)), (1, .inr (some t)), (2, .inl c), (3, .inl p)] [] (lay0, T, P) := by
    refine loopD _ (fun f ih16 T c p hI hfc hc0 hd => ?_)
    have hv := hst T p hI
    refine r_iload_n (d := mX5_tryText) (pc := 16) (i := 2) (v := c) dX5_tryText_16 rfl rfl ?_
    refine r_bipush (d := mX5_tryText) (pc := 17) (n := 80) dX5_tryText_17 ?_
    refine r_icmp_ge (d := mX5_tryText) (pc := 19) (tgt := 122) dX5_tryText_19 (by decide) (fun h19 => ?_) (fun h19 => ?_)
    · have hfin : ttR I r t = (T, c) := by
        rw [hd]
        rcases Nat.eq_zero_or_pos f with q | q
        · rw [q]; rfl
        · rw [show f = (f - 1) + 1 by omega, ttL, if_neg (by omega)]
      refine r_iload_n (d := mX5_tryText) (pc := 122) (i := 2) (v := c) dX5_tryText_122 rfl rfl ?_
      exact r_iret (d := mX5_tryText) (pc := 123) dX5_tryText_123 rfl (rtI (by rw [hfin]) (by refine memE ?_; rw [hfin]; try rfl)) (by decide) (by decide)
    · refine r_iload_n (d := mX5_tryText) (pc := 22) (i := 3) (v := p) dX5_tryText_22 rfl rfl ?_
      refine r_aload_n (d := mX5_tryText) (pc := 23) (i := 0) (v := 0) dX5_tryText_23 rfl rfl ?_
      refine r_getRs (d := mX5_tryText) (pc := 24) (a := 0) (kd := 5) (j := 4) (x := 52) dX5_tryText_24 flRX5_30 ly0 (by decide) (by decide) rfl hC.1.2.2.2 ?_
      refine r_getIs (d := mX5_tryText) (pc := 27) (a := 52) (kd := 3) (j := 1) (x := (T 52 1)) dX5_tryText_27 flRX5_94 ly52 (by decide) (by decide) rfl (rfl) ?_
      refine r_icmp_ge (d := mX5_tryText) (pc := 30) (tgt := 122) dX5_tryText_30 (by decide) (fun h30 => ?_) (fun h30 => ?_)
      · have hfin : ttR I r t = (T, c) := by
          rw [hd]
          rcases Nat.eq_zero_or_pos f with q | q
          · rw [q]; rfl
          · rw [show f = (f - 1) + 1 by omega, ttL, if_neg (by omega)]
        refine r_iload_n (d := mX5_tryText) (pc := 122) (i := 2) (v := c) dX5_tryText_122 rfl rfl ?_
        exact r_iret (d := mX5_tryText) (pc := 123) dX5_tryText_123 rfl (rtI (by rw [hfin]) (by refine memE ?_; rw [hfin]; try rfl)) (by decide) (by decide)
      · have h30 : p < T 52 1 := by omega
        refine r_aload_n (d := mX5_tryText) (pc := 33) (i := 0) (v := 0) dX5_tryText_33 rfl rfl ?_
        refine r_getRs (d := mX5_tryText) (pc := 34) (a := 0) (kd := 5) (j := 4) (x := 52) dX5_tryText_34 flRX5_30 ly0 (by decide) (by decide) rfl hC.1.2.2.2 ?_
        refine r_iload_n (d := mX5_tryText) (pc := 37) (i := 3) (v := p) dX5_tryText_37 rfl rfl ?_
        refine r_cV1 (d := mX5_tryText) (pc := 38) (dj := mX3_readCommand) (a := 52) (kd := 3) dX5_tryText_38 mlRX5_132 inX3_readCommand selX3_readCommand rfl ly52 (by decide) okX3_readCommand (by decide) rfl (Nat.le_of_ble_eq_true rfl) (by decide) (by decide) (Fn_X3_readCommand k T P hX hv.1 p hv.2.1.1 hv.2.1.2) ?_
        refine r_istore (d := mX5_tryText) (pc := 41) (i := 4) (lv' := [(0, .inr (some 0)), (1, .inr (some t)), (2, .inl c), (3, .inl p), (4, .inl (t5C T p))]) dX5_tryText_41 (by decide) rfl rfl ?_
        refine r_iload (d := mX5_tryText) (pc := 43) (i := 4) (v := t5C T p) dX5_tryText_43 rfl ?_
        refine r_iconst (d := mX5_tryText) (pc := 45) (n := (-1)) dX5_tryText_45 ?_
        refine r_icmp_ne (d := mX5_tryText) (pc := 46) (tgt := 58) dX5_tryText_46 (by decide) (fun h46 => ?_) (fun h46 => ?_)
        · have hro := (hv.2.2 h30 h46).1
          refine r_aload_n (d := mX5_tryText) (pc := 58) (i := 1) (v := t) dX5_tryText_58 rfl rfl ?_
          refine r_iload (d := mX5_tryText) (pc := 59) (i := 4) (v := t5C T p) dX5_tryText_59 rfl ?_
          refine r_aload_n (d := mX5_tryText) (pc := 61) (i := 0) (v := 0) dX5_tryText_61 rfl rfl ?_
          refine r_getRs (d := mX5_tryText) (pc := 62) (a := 0) (kd := 5) (j := 4) (x := 52) dX5_tryText_62 flRX5_30 ly0 (by decide) (by decide) rfl hC.1.2.2.2 ?_
          refine r_getRs (d := mX5_tryText) (pc := 65) (a := 52) (kd := 3) (j := 2) (x := 54) dX5_tryText_65 flRX5_135 ly52 (by decide) (by decide) rfl hX.2 ?_
          refine r_iconst (d := mX5_tryText) (pc := 68) (n := 0) dX5_tryText_68 ?_
          refine r_ialds (d := mX5_tryText) (pc := 69) (a := 54) (x := ((t5K T p) 54 0)) dX5_tryText_69 ly54 (by decide) (by decide) (rfl) ?_
          refine r_aload_n (d := mX5_tryText) (pc := 70) (i := 0) (v := 0) dX5_tryText_70 rfl rfl ?_
          refine r_getRs (d := mX5_tryText) (pc := 71) (a := 0) (kd := 5) (j := 4) (x := 52) dX5_tryText_71 flRX5_30 ly0 (by decide) (by decide) rfl hC.1.2.2.2 ?_
          refine r_getRs (d := mX5_tryText) (pc := 74) (a := 52) (kd := 3) (j := 2) (x := 54) dX5_tryText_74 flRX5_135 ly52 (by decide) (by decide) rfl hX.2 ?_
          refine r_iconst (d := mX5_tryText) (pc := 77) (n := 1) dX5_tryText_77 ?_
          refine r_ialds (d := mX5_tryText) (pc := 78) (a := 54) (x := ((t5K T p) 54 1)) dX5_tryText_78 ly54 (by decide) (by decide) (rfl) ?_
          refine r_aload_n (d := mX5_tryText) (pc := 79) (i := 0) (v := 0) dX5_tryText_79 rfl rfl ?_
          refine r_getRs (d := mX5_tryText) (pc := 80) (a := 0) (kd := 5) (j := 4) (x := 52) dX5_tryText_80 flRX5_30 ly0 (by decide) (by decide) rfl hC.1.2.2.2 ?_
          refine r_getRs (d := mX5_tryText) (pc := 83) (a := 52) (kd := 3) (j := 2) (x := 54) dX5_tryText_83 flRX5_135 ly52 (by decide) (by decide) rfl hX.2 ?_
          refine r_iconst (d := mX5_tryText) (pc := 86) (n := 2) dX5_tryText_86 ?_
          refine r_ialds (d := mX5_tryText) (pc := 87) (a := 54) (x := ((t5K T p) 54 2)) dX5_tryText_87 ly54 (by decide) (by decide) (rfl) ?_
          refine r_cV4 (d := mX5_tryText) (pc := 88) (dj := mX2_perform) (a := t) (kd := 2) dX5_tryText_88 mlRX5_139 inX2_perform selX2_perform rfl hC.2.2.2.1.1.1 (by decide) okX2_perform (by decide) rfl (Nat.le_of_ble_eq_true rfl) (by decide) (by decide) (Fn_X2_perform (k + 1) (t5K T p) P t hC.2.2.2.1 _ hro.1.1 hro.1.2 _ hro.2.1.1 hro.2.1.2 _ hro.2.2.1.1 hro.2.2.1.2 hro.2.2.2.1 hro.2.2.2.2.1.2.2.1 hro.2.2.2.2.1.2.2.2.1 hro.2.2.2.2.1.2.2.2.2 hro.2.2.2.2.1.2.1 hro.2.2.2.2.2 (t5C T p) ((t5K T p) 54 0) ((t5K T p) 54 1) ((t5K T p) 54 2)) ?_
          change WP _ _ _ _ _ _ _ [.inl (t5V t T p)] (lay0, t5L t T p, P)
          refine r_istore (d := mX5_tryText) (pc := 91) (i := 5) (lv' := [(0, .inr (some 0)), (1, .inr (some t)), (2, .inl c), (3, .inl p), (4, .inl (t5C T p)), (5, .inl (t5V t T p))]) dX5_tryText_91 (by decide) rfl rfl ?_
          refine r_iload (d := mX5_tryText) (pc := 93) (i := 5) (v := (t5V t T p)) dX5_tryText_93 rfl ?_
          refine r_if_ge (d := mX5_tryText) (pc := 95) (tgt := 108) dX5_tryText_95 (by decide) (fun h95 => ?_) (fun h95 => ?_)
          · refine r_iinc (d := mX5_tryText) (pc := 108) (i := 2) (v := c) (y := (c + 1)) (lv' := [(0, .inr (some 0)), (1, .inr (some t)), (2, .inl (c + 1)), (3, .inl p), (4, .inl (t5C T p)), (5, .inl (t5V t T p))]) dX5_tryText_108 rfl (by decide) rfl rfl rfl ?_
            refine r_aload_n (d := mX5_tryText) (pc := 111) (i := 0) (v := 0) dX5_tryText_111 rfl rfl ?_
            refine r_getRs (d := mX5_tryText) (pc := 112) (a := 0) (kd := 5) (j := 4) (x := 52) dX5_tryText_112 flRX5_30 ly0 (by decide) (by decide) rfl hC.1.2.2.2 ?_
            refine r_getIs (d := mX5_tryText) (pc := 115) (a := 52) (kd := 3) (j := 3) (x := ((t5L t T p) 52 3)) dX5_tryText_115 flRX5_142 ly52 (by decide) (by decide) rfl (rfl) ?_
            refine r_istore_n (d := mX5_tryText) (pc := 118) (i := 3) (lv' := [(0, .inr (some 0)), (1, .inr (some t)), (2, .inl (c + 1)), (3, .inl ((t5L t T p) 52 3)), (4, .inl (t5C T p)), (5, .inl (t5V t T p))]) dX5_tryText_118 rfl (by decide) rfl rfl ?_
            refine r_goto (d := mX5_tryText) (pc := 119) (tgt := 16) dX5_tryText_119 (by decide) ?_
            refine WP.pick (lv' := [(0, .inr (some 0)), (1, .inr (some t)), (2, .inl (c + 1)), (3, .inl ((t5L t T p) 52 3))]) [0, 1, 2, 3] rfl ?_
            exact wpE (by simp) rfl (by rfl) (ih16 (f - 1) (by omega) (t5L t T p) (c + 1) (t5L t T p 52 3) ((hv.2.2 h30 h46).2 (by omega)) (by omega) (by omega) (by rw [hd]; conv => lhs; rw [show f = (f - 1) + 1 by omega, ttL, if_pos h30, if_neg h46, if_neg (by omega)]))
          · refine r_aload_n (d := mX5_tryText) (pc := 98) (i := 0) (v := 0) dX5_tryText_98 rfl rfl ?_
            refine r_iload_n (d := mX5_tryText) (pc := 99) (i := 3) (v := p) dX5_tryText_99 rfl rfl ?_
            refine r_iconst (d := mX5_tryText) (pc := 100) (n := 2) dX5_tryText_100 ?_
            refine r_iload (d := mX5_tryText) (pc := 101) (i := 5) (v := (t5V t T p)) dX5_tryText_101 rfl ?_
            refine r_cV3 (d := mX5_tryText) (pc := 103) (dj := mX5_noteFault) (a := 0) (kd := 5) dX5_tryText_103 mlRX5_128 inX5_noteFault selX5_noteFault rfl ly0 (by decide) okX5_noteFault (by decide) rfl (Nat.le_of_ble_eq_true rfl) (by decide) (by decide) (Fn_X5_noteFault (k + 5) (t5L t T p) P p 2 (t5V t T p)) ?_
            refine r_iload_n (d := mX5_tryText) (pc := 106) (i := 2) (v := c) dX5_tryText_106 rfl rfl ?_
            have hfin : ttR I r t = (noI (t5L t T p) p 2 (t5V t T p), c) := by rw [hd, show f = (f - 1) + 1 by omega, ttL, if_pos h30, if_neg h46, if_pos (by omega)]
            exact r_iret (d := mX5_tryText) (pc := 107) dX5_tryText_107 rfl (rtI (by rw [hfin]) (by refine memE ?_; rw [hfin]; try rfl)) (by decide) (by decide)
        · refine r_aload_n (d := mX5_tryText) (pc := 49) (i := 0) (v := 0) dX5_tryText_49 rfl rfl ?_
          refine r_iload_n (d := mX5_tryText) (pc := 50) (i := 3) (v := p) dX5_tryText_50 rfl rfl ?_
          refine r_iconst (d := mX5_tryText) (pc := 51) (n := 1) dX5_tryText_51 ?_
          refine r_iconst (d := mX5_tryText) (pc := 52) (n := 0) dX5_tryText_52 ?_
          refine r_cV3 (d := mX5_tryText) (pc := 53) (dj := mX5_noteFault) (a := 0) (kd := 5) dX5_tryText_53 mlRX5_128 inX5_noteFault selX5_noteFault rfl ly0 (by decide) okX5_noteFault (by decide) rfl (Nat.le_of_ble_eq_true rfl) (by decide) (by decide) (Fn_X5_noteFault (k + 5) (t5K T p) P p 1 0) ?_
          refine r_iload_n (d := mX5_tryText) (pc := 56) (i := 2) (v := c) dX5_tryText_56 rfl rfl ?_
          have hfin : ttR I r t = (noI (t5K T p) p 1 0, c) := by rw [hd, show f = (f - 1) + 1 by omega, ttL, if_pos h30, if_pos h46]
          exact r_iret (d := mX5_tryText) (pc := 57) dX5_tryText_57 rfl (rtI (by rw [hfin]) (by refine memE ?_; rw [hfin]; try rfl)) (by decide) (by decide)
  exact wpE (by simp) rfl (by rfl) (L16 80 (ttZ I r t) 0 0 hz (by omega) (by omega) rfl)
set_option maxRecDepth 20000 in
set_option maxHeartbeats 4000000 in
theorem Fn_X5_fault (k : Nat) (I : mIt) (P : mPt) (r t : Nat) (h : Int → Nat) (hC : isCn P r t h) (hX : isTx P) (hY : TtOK I r t) (w : Int) : WP (k + 7) mX5_fault none (0, 0) (Rt (some (.inl (ftV I r t w))) (lay0, ftI I r t w, P)) 0 [(0, .inr (some 0)), (1, .inl w)] [] (lay0, I, P) := by
  refine r_iload_n (d := mX5_fault) (pc := 0) (i := 1) (v := w) dX5_fault_0 rfl rfl ?_
  refine r_iconst (d := mX5_fault) (pc := 1) (n := 0) dX5_fault_1 ?_
  refine r_iconst (d := mX5_fault) (pc := 2) (n := 2) dX5_fault_2 ?_
  refine r_cS3 (d := mX5_fault) (pc := 3) (dj := mX5_within) dX5_fault_3 mlRX5_113 staX5_within okX5_within (by decide) rfl (Nat.le_of_ble_eq_true rfl) (by decide) (by decide) (Fn_X5_within (k + 6) I P w 0 2) ?_
  refine r_ifb_ne (d := mX5_fault) (pc := 6) (tgt := 11) dX5_fault_6 (by decide) (fun h6 => ?_) (fun h6 => ?_)
  · refine r_aload_n (d := mX5_fault) (pc := 11) (i := 0) (v := 0) dX5_fault_11 rfl rfl ?_
    refine r_cV0 (d := mX5_fault) (pc := 12) (dj := mX5_tryText) (a := 0) (kd := 5) dX5_fault_12 mlRX5_121 inX5_tryText selX5_tryText rfl ly0 (by decide) okX5_tryText (by decide) rfl (Nat.le_of_ble_eq_true rfl) (by decide) (by decide) (Fn_X5_tryText k I P r t h hC hX hY) ?_
    refine r_pop (d := mX5_fault) (pc := 15) dX5_fault_15 ?_
    refine r_aload_n (d := mX5_fault) (pc := 16) (i := 0) (v := 0) dX5_fault_16 rfl rfl ?_
    refine r_getIs (d := mX5_fault) (pc := 17) (a := 0) (kd := 5) (j := 6) (x := (((ttR I r t).1) 0 6)) dX5_fault_17 flRX5_37 ly0 (by decide) (by decide) rfl (rfl) ?_
    refine r_if_ne (d := mX5_fault) (pc := 20) (tgt := 26) dX5_fault_20 (by decide) (fun h20 => ?_) (fun h20 => ?_)
    · refine r_iload_n (d := mX5_fault) (pc := 26) (i := 1) (v := w) dX5_fault_26 rfl rfl ?_
      refine r_if_ne (d := mX5_fault) (pc := 27) (tgt := 35) dX5_fault_27 (by decide) (fun h27 => ?_) (fun h27 => ?_)
      · refine r_iload_n (d := mX5_fault) (pc := 35) (i := 1) (v := w) dX5_fault_35 rfl rfl ?_
        refine r_iconst (d := mX5_fault) (pc := 36) (n := 1) dX5_fault_36 ?_
        refine r_icmp_ne (d := mX5_fault) (pc := 37) (tgt := 45) dX5_fault_37 (by decide) (fun h37 => ?_) (fun h37 => ?_)
        · refine r_aload_n (d := mX5_fault) (pc := 45) (i := 0) (v := 0) dX5_fault_45 rfl rfl ?_
          refine r_getIs (d := mX5_fault) (pc := 46) (a := 0) (kd := 5) (j := 6) (x := (((ttR I r t).1) 0 6)) dX5_fault_46 flRX5_37 ly0 (by decide) (by decide) rfl (rfl) ?_
          refine r_iconst (d := mX5_fault) (pc := 49) (n := 1) dX5_fault_49 ?_
          refine r_icmp_ne (d := mX5_fault) (pc := 50) (tgt := 58) dX5_fault_50 (by decide) (fun h50 => ?_) (fun h50 => ?_)
          · refine r_aload_n (d := mX5_fault) (pc := 58) (i := 0) (v := 0) dX5_fault_58 rfl rfl ?_
            refine r_getIs (d := mX5_fault) (pc := 59) (a := 0) (kd := 5) (j := 7) (x := (((ttR I r t).1) 0 7)) dX5_fault_59 flRX5_40 ly0 (by decide) (by decide) rfl (rfl) ?_
            exact r_iret (d := mX5_fault) (pc := 62) dX5_fault_62 rfl (rtI (by first | (rw [ftV, if_pos (by omega)]; done) | (rw [ftV, if_neg (by omega), if_pos (by omega)]; done) | (rw [ftV, if_neg (by omega), if_neg (by omega), if_pos (by omega)]; done) | (rw [ftV, if_neg (by omega), if_neg (by omega), if_neg (by omega), if_pos (by omega)]; done) | (rw [ftV, if_neg (by omega), if_neg (by omega), if_neg (by omega), if_neg (by omega), if_pos (by omega)]; done) | (rw [ftV, if_neg (by omega), if_neg (by omega), if_neg (by omega), if_neg (by omega), if_neg (by omega)]; done)) (by refine memE ?_; first | (rw [ftI, if_pos (by omega)]; done) | (rw [ftI, if_neg (by omega)]; done))) (by decide) (by decide)
          · refine r_bipush (d := mX5_fault) (pc := 53) (n := (-4)) dX5_fault_53 ?_
            refine r_goto (d := mX5_fault) (pc := 55) (tgt := 62) dX5_fault_55 (by decide) ?_
            exact r_iret (d := mX5_fault) (pc := 62) dX5_fault_62 rfl (rtI (by first | (rw [ftV, if_pos (by omega)]; done) | (rw [ftV, if_neg (by omega), if_pos (by omega)]; done) | (rw [ftV, if_neg (by omega), if_neg (by omega), if_pos (by omega)]; done) | (rw [ftV, if_neg (by omega), if_neg (by omega), if_neg (by omega), if_pos (by omega)]; done) | (rw [ftV, if_neg (by omega), if_neg (by omega), if_neg (by omega), if_neg (by omega), if_pos (by omega)]; done) | (rw [ftV, if_neg (by omega), if_neg (by omega), if_neg (by omega), if_neg (by omega), if_neg (by omega)]; done)) (by refine memE ?_; first | (rw [ftI, if_pos (by omega)]; done) | (rw [ftI, if_neg (by omega)]; done))) (by decide) (by decide)
        · refine r_aload_n (d := mX5_fault) (pc := 40) (i := 0) (v := 0) dX5_fault_40 rfl rfl ?_
          refine r_getIs (d := mX5_fault) (pc := 41) (a := 0) (kd := 5) (j := 6) (x := (((ttR I r t).1) 0 6)) dX5_fault_41 flRX5_37 ly0 (by decide) (by decide) rfl (rfl) ?_
          exact r_iret (d := mX5_fault) (pc := 44) dX5_fault_44 rfl (rtI (by first | (rw [ftV, if_pos (by omega)]; done) | (rw [ftV, if_neg (by omega), if_pos (by omega)]; done) | (rw [ftV, if_neg (by omega), if_neg (by omega), if_pos (by omega)]; done) | (rw [ftV, if_neg (by omega), if_neg (by omega), if_neg (by omega), if_pos (by omega)]; done) | (rw [ftV, if_neg (by omega), if_neg (by omega), if_neg (by omega), if_neg (by omega), if_pos (by omega)]; done) | (rw [ftV, if_neg (by omega), if_neg (by omega), if_neg (by omega), if_neg (by omega), if_neg (by omega)]; done)) (by refine memE ?_; first | (rw [ftI, if_pos (by omega)]; done) | (rw [ftI, if_neg (by omega)]; done))) (by decide) (by decide)
      · refine r_aload_n (d := mX5_fault) (pc := 30) (i := 0) (v := 0) dX5_fault_30 rfl rfl ?_
        refine r_getIs (d := mX5_fault) (pc := 31) (a := 0) (kd := 5) (j := 5) (x := (((ttR I r t).1) 0 5)) dX5_fault_31 flRX5_34 ly0 (by decide) (by decide) rfl (rfl) ?_
        exact r_iret (d := mX5_fault) (pc := 34) dX5_fault_34 rfl (rtI (by first | (rw [ftV, if_pos (by omega)]; done) | (rw [ftV, if_neg (by omega), if_pos (by omega)]; done) | (rw [ftV, if_neg (by omega), if_neg (by omega), if_pos (by omega)]; done) | (rw [ftV, if_neg (by omega), if_neg (by omega), if_neg (by omega), if_pos (by omega)]; done) | (rw [ftV, if_neg (by omega), if_neg (by omega), if_neg (by omega), if_neg (by omega), if_pos (by omega)]; done) | (rw [ftV, if_neg (by omega), if_neg (by omega), if_neg (by omega), if_neg (by omega), if_neg (by omega)]; done)) (by refine memE ?_; first | (rw [ftI, if_pos (by omega)]; done) | (rw [ftI, if_neg (by omega)]; done))) (by decide) (by decide)
    · refine r_bipush (d := mX5_fault) (pc := 23) (n := (-4)) dX5_fault_23 ?_
      exact r_iret (d := mX5_fault) (pc := 25) dX5_fault_25 rfl (rtI (by first | (rw [ftV, if_pos (by omega)]; done) | (rw [ftV, if_neg (by omega), if_pos (by omega)]; done) | (rw [ftV, if_neg (by omega), if_neg (by omega), if_pos (by omega)]; done) | (rw [ftV, if_neg (by omega), if_neg (by omega), if_neg (by omega), if_pos (by omega)]; done) | (rw [ftV, if_neg (by omega), if_neg (by omega), if_neg (by omega), if_neg (by omega), if_pos (by omega)]; done) | (rw [ftV, if_neg (by omega), if_neg (by omega), if_neg (by omega), if_neg (by omega), if_neg (by omega)]; done)) (by refine memE ?_; first | (rw [ftI, if_pos (by omega)]; done) | (rw [ftI, if_neg (by omega)]; done))) (by decide) (by decide)
  · refine r_iconst (d := mX5_fault) (pc := 9) (n := (-1)) dX5_fault_9 ?_
    exact r_iret (d := mX5_fault) (pc := 10) dX5_fault_10 rfl (rtI (by first | (rw [ftV, if_pos (by omega)]; done) | (rw [ftV, if_neg (by omega), if_pos (by omega)]; done) | (rw [ftV, if_neg (by omega), if_neg (by omega), if_pos (by omega)]; done) | (rw [ftV, if_neg (by omega), if_neg (by omega), if_neg (by omega), if_pos (by omega)]; done) | (rw [ftV, if_neg (by omega), if_neg (by omega), if_neg (by omega), if_neg (by omega), if_pos (by omega)]; done) | (rw [ftV, if_neg (by omega), if_neg (by omega), if_neg (by omega), if_neg (by omega), if_neg (by omega)]; done)) (by refine memE ?_; first | (rw [ftI, if_pos (by omega)]; done) | (rw [ftI, if_neg (by omega)]; done))) (by decide) (by decide)
set_option maxRecDepth 20000 in
set_option maxHeartbeats 4000000 in
theorem Fn_X5_play (k : Nat) (I : mIt) (P : mPt) (r t : Nat) (h : Int → Nat) (hC : isCn P r t h) (hX : isTx P) (hY : TtOK I r t) (hq : 0 ≤ (ttR I r t).1 0 3 ∧ (ttR I r t).1 0 3 ≤ 4) : WP (k + 7) mX5_play none (0, 0) (Rt (some (.inl (p5V I r t))) (lay0, slI (ttR I r t).1 (p5V I r t), slP P (ttR I r t).1 r t h (p5V I r t))) 0 [(0, .inr (some 0))] [] (lay0, I, P) := by
  refine r_aload_n (d := mX5_play) (pc := 0) (i := 0) (v := 0) dX5_play_0 rfl rfl ?_
  refine r_cV0 (d := mX5_play) (pc := 1) (dj := mX5_tryText) (a := 0) (kd := 5) dX5_play_1 mlRX5_121 inX5_tryText selX5_tryText rfl ly0 (by decide) okX5_tryText (by decide) rfl (Nat.le_of_ble_eq_true rfl) (by decide) (by decide) (Fn_X5_tryText k I P r t h hC hX hY) ?_
  refine r_istore_n (d := mX5_play) (pc := 4) (i := 1) (lv' := [(0, .inr (some 0)), (1, .inl ((ttR I r t).2))]) dX5_play_4 rfl (by decide) rfl rfl ?_
  refine r_aload_n (d := mX5_play) (pc := 5) (i := 0) (v := 0) dX5_play_5 rfl rfl ?_
  refine r_aload_n (d := mX5_play) (pc := 6) (i := 0) (v := 0) dX5_play_6 rfl rfl ?_
  refine r_getIs (d := mX5_play) (pc := 7) (a := 0) (kd := 5) (j := 6) (x := (((ttR I r t).1) 0 6)) dX5_play_7 flRX5_37 ly0 (by decide) (by decide) rfl (rfl) ?_
  have T19 : WP (k + 7) mX5_play none (0, 0) (Rt (some (.inl (p5V I r t))) (lay0, slI (ttR I r t).1 (p5V I r t), slP P (ttR I r t).1 r t h (p5V I r t))) 19 [(0, .inr (some 0)), (1, .inl ((ttR I r t).2))] [.inl (p5V I r t), .inr (some 0)] (lay0, (ttR I r t).1, P) := by
    refine r_cV1 (d := mX5_play) (pc := 19) (dj := mX5_settle) (a := 0) (kd := 5) dX5_play_19 mlRX5_51 inX5_settle selX5_settle rfl ly0 (by decide) okX5_settle (by decide) rfl (Nat.le_of_ble_eq_true rfl) (by decide) (by decide) (Fn_X5_settle (k + 6) ((ttR I r t).1) P r t h hC hq (p5V I r t)) ?_
    exact r_iret (d := mX5_play) (pc := 22) dX5_play_22 rfl (rtI (by rfl) (by rfl)) (by decide) (by decide)
  refine r_if_ne (d := mX5_play) (pc := 10) (tgt := 17) dX5_play_10 (by decide) (fun h10 => ?_) (fun h10 => ?_)
  · refine r_bipush (d := mX5_play) (pc := 17) (n := (-2)) dX5_play_17 ?_
    exact wpE (by rfl) (by rw [p5V]; first | (rw [if_pos (by omega)]; done) | (rw [if_pos (by omega)]; rfl) | (rw [if_neg (by omega)]; done) | (rw [if_neg (by omega)]; rfl)) (by rfl) T19
  · refine r_iload_n (d := mX5_play) (pc := 13) (i := 1) (v := (ttR I r t).2) dX5_play_13 rfl rfl ?_
    refine r_goto (d := mX5_play) (pc := 14) (tgt := 19) dX5_play_14 (by decide) ?_
    exact wpE (by rfl) (by rw [p5V]; first | (rw [if_pos (by omega)]; done) | (rw [if_pos (by omega)]; rfl) | (rw [if_neg (by omega)]; done) | (rw [if_neg (by omega)]; rfl)) (by rfl) T19
