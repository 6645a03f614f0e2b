/-! ===== the model: chairs for names ===== -/
theorem arS_mUp (I : mIt) (a : Nat) (i v : Int) (g : Int → Int) : arS (mUp I a i v) a g = arS I a g := arS_arS I a _ g
theorem fset_self (s : Int → Int) {i v : Int} (h : s i = v) : fset s i v = s := by
  funext j
  unfold fset
  by_cases hj : j = i
  · rw [if_pos hj, hj, h]
  · rw [if_neg hj]
def guM (s : Int → Int) (n m nc : Nat) (name : Int) : Int → Int := frM (fset s (12 + name) (-1)) n m nc
def fr0 (s : Int → Int) (c : Nat) : Bool := decide (s (28 + 5 * (c : Int) + 0) = 0)
def cf0 (s : Int → Int) (nc : Nat) : Int := lowR (fr0 s) nc 0
def snR (s : Int → Int) (c : Int) : Nat → Int → Int
  | 0 => s
  | j + 1 => if s (12 + (j : Int)) = c then fset (fset (snR s c j) (12 + (j : Int)) (-1)) (20 + (j : Int)) (s (28 + 5 * c + 1)) else snR s c j
theorem snR_ne (s : Int → Int) (c : Int) (j : Nat) (hj : j ≤ 8) (i : Int) (h : i < 12 ∨ (12 + (j : Int) ≤ i ∧ i < 20) ∨ 20 + (j : Int) ≤ i) : snR s c j i = s i := by
  induction j with
  | zero => rfl
  | succ j ih =>
    unfold snR
    split
    · rw [fset_ne _ _ (by omega), fset_ne _ _ (by omega)]
      exact ih (by omega) (by omega)
    · exact ih (by omega) (by omega)
def cfS (s : Int → Int) (n m nc : Nat) (one other : Int) : Int → Int := if cf0 s nc = -1 ∧ ¬ nxM s n m one other nc < 0 then fset (snR s (nxM s n m one other nc) 8) 5 (s 5 + 1) else s
def cfV (s : Int → Int) (n m nc : Nat) (one other : Int) : Int := if cf0 s nc = -1 then nxM s n m one other nc else cf0 s nc
theorem cf0_rng (s : Int → Int) (nc : Nat) : cf0 s nc = -1 ∨ (0 ≤ cf0 s nc ∧ cf0 s nc < nc) := by
  have h0 := lowR_rng (fr0 s) nc 0
  unfold cf0
  omega
theorem cfV_rng (s : Int → Int) (n m nc : Nat) (one other : Int) : cfV s n m nc one other = -4 ∨ (0 ≤ cfV s n m nc one other ∧ cfV s n m nc one other < nc) := by
  have h0 := cf0_rng s nc
  have h1 := nxM_rng s n m one other nc
  unfold cfV
  split <;> omega
theorem cfS_ne (s : Int → Int) (n m nc : Nat) (one other : Int) {i : Int} (h : i < 12 ∨ 28 ≤ i) (h5 : i ≠ 5) : cfS s n m nc one other i = s i := by
  unfold cfS
  split
  · rw [fset_ne _ _ h5, snR_ne _ _ _ (by decide) _ (by omega)]
  · rfl
def gtS (s : Int → Int) (c name : Int) : Int → Int := fset (fset (fset (fset (fset (fset s (12 + name) c) (28 + 5 * c + 0) 1) (28 + 5 * c + 1) 0) (28 + 5 * c + 2) 0) (28 + 5 * c + 3) (-1)) (28 + 5 * c + 4) (s 7)
def getS (s : Int → Int) (n m nc : Nat) (name one other : Int) : Int → Int := if cfV s n m nc one other < 0 then cfS s n m nc one other else gtS (cfS s n m nc one other) (cfV s n m nc one other) name
def ikS (s : Int → Int) (c v : Int) : Int → Int := fset (fset (fset s (28 + 5 * c + 1) v) (28 + 5 * c + 2) 1) (28 + 5 * c + 3) (-1)
def stX (s : Int → Int) (c name : Int) : Int → Int := fset (fset (fset (fset s 6 (s 6 + 1)) (28 + 5 * c + 1) (s (20 + name))) (28 + 5 * c + 2) (if s 10 = 0 then 1 else 0)) (28 + 5 * c + 3) (if s 10 = 0 then -1 else s 1 + s 10)
def siB (s : Int → Int) (n m nc : Nat) (name one other : Int) : Bool := decide (0 ≤ s (12 + name) ∨ 0 ≤ cfV s n m nc one other)
def siS (s : Int → Int) (n m nc : Nat) (name one other : Int) : Int → Int := if 0 ≤ s (12 + name) then s else if cfV s n m nc one other < 0 then getS s n m nc name one other else stX (getS s n m nc name one other) (cfV s n m nc one other) name
set_option maxRecDepth 20000 in
set_option maxHeartbeats 4000000 in
theorem Fn_X6_givesUp (k : Nat) (I : mIt) (P : mPt) (hM : isMd P) (n : Nat) (hn : I 156 3 = n) (hn6 : n ≤ 6) (m : Nat) (hm : I 156 2 = m) (hm3 : m ≤ 3) (nc : Nat) (hc : I 156 0 = nc) (hc7 : nc ≤ 7) (name : Int) (hnm0 : 0 ≤ name) (hnm8 : name < 8) : WP (k + 3) mX6_givesUp none (0, 0) (Rt none (lay0, arS I 156 (guM (I 156) n m nc name), P)) 0 [(0, .inr (some 155)), (1, .inl name)] [] (lay0, I, P) := by
  refine r_aload_n (d := mX6_givesUp) (pc := 0) (i := 0) (v := 155) dX6_givesUp_0 rfl rfl ?_
  refine r_getRs (d := mX6_givesUp) (pc := 1) (a := 155) (kd := 6) (j := 0) (x := 156) dX6_givesUp_1 flRX6_7 ly155 (by decide) (by decide) rfl hM.1 ?_
  refine r_bipush (d := mX6_givesUp) (pc := 4) (n := 12) dX6_givesUp_4 ?_
  refine r_iload_n (d := mX6_givesUp) (pc := 6) (i := 1) (v := name) dX6_givesUp_6 rfl rfl ?_
  refine r_iadd (d := mX6_givesUp) (pc := 7) dX6_givesUp_7 ?_
  refine r_iconst (d := mX6_givesUp) (pc := 8) (n := (-1)) dX6_givesUp_8 ?_
  refine r_iasts (d := mX6_givesUp) (pc := 9) (a := 156) (lay0, arS I 156 (fset (I 156) (12 + name) (-1)), P) dX6_givesUp_9 ly156 (by omega) (by omega) rfl ?_
  refine r_aload_n (d := mX6_givesUp) (pc := 10) (i := 0) (v := 155) dX6_givesUp_10 rfl rfl ?_
  refine r_cV0 (d := mX6_givesUp) (pc := 11) (dj := mX6_frees) (a := 155) (kd := 6) dX6_givesUp_11 mlRX6_68 inX6_frees selX6_frees rfl ly155 (by decide) okX6_frees (by decide) rfl (Nat.le_of_ble_eq_true rfl) (by decide) (by decide) (Fn_X6_frees k (arS I 156 (fset (I 156) (12 + name) (-1))) P hM n (by show (fset (I 156) (12 + name) (-1)) 3 = _; rw [fset_ne _ _ (by omega)]; exact hn) hn6 m (by show (fset (I 156) (12 + name) (-1)) 2 = _; rw [fset_ne _ _ (by omega)]; exact hm) hm3 nc (by show (fset (I 156) (12 + name) (-1)) 0 = _; rw [fset_ne _ _ (by omega)]; exact hc) hc7 ) ?_
  refine wpE (lv' := [(0, .inr (some 155)), (1, .inl name)]) (st' := []) (M' := (lay0, arS I 156 (frM (fset (I 156) (12 + name) (-1)) n m nc), P)) rfl rfl (memE (arS_arS _ _ _ _)) ?_
  exact r_ret (d := mX6_givesUp) (pc := 14) dX6_givesUp_14 rfl (rtV (by rfl)) (by decide) (by decide)
set_option maxRecDepth 20000 in
set_option maxHeartbeats 4000000 in
theorem Fn_X6_next (k : Nat) (I : mIt) (P : mPt) (hM : isMd P) (n : Nat) (hn : I 156 3 = n) (hn6 : n ≤ 6) (m : Nat) (hm : I 156 2 = m) (hm3 : m ≤ 3) (nc : Nat) (hc : I 156 0 = nc) (hc7 : nc ≤ 7) (one other : Int) (ho1 : -1 ≤ one) (ho2 : one < 8) (ho3 : -1 ≤ other) (ho4 : other < 8) (ho5 : 0 ≤ one → 0 ≤ other) : WP (k + 2) mX6_next none (0, 0) (Rt (some (.inl (nxM (I 156) n m one other nc))) (lay0, I, P)) 0 [(0, .inr (some 155)), (1, .inl one), (2, .inl other)] [] (lay0, I, P) := by
  refine r_bipush (d := mX6_next) (pc := 0) (n := (-4)) dX6_next_0 ?_
  refine r_istore_n (d := mX6_next) (pc := 2) (i := 3) (lv' := [(0, .inr (some 155)), (1, .inl one), (2, .inl other), (3, .inl (-4))]) dX6_next_2 rfl (by decide) rfl rfl ?_
  refine r_iconst (d := mX6_next) (pc := 3) (n := 0) dX6_next_3 ?_
  refine r_istore (d := mX6_next) (pc := 4) (i := 4) (lv' := [(0, .inr (some 155)), (1, .inl one), (2, .inl other), (3, .inl (-4)), (4, .inl 0)]) dX6_next_4 (by decide) rfl rfl ?_
  have L6 : ∀ j : Nat, j ≤ nc → WP (k + 2) mX6_next none (0, 0) (Rt (some (.inl (nxM (I 156) n m one other nc))) (lay0, I, P)) 6 [(0, .inr (some 155)), (1, .inl one), (2, .inl other), (3, .inl (nxM (I 156) n m one other j)), (4, .inl (j : Int))] [] (lay0, I, P) := by
    refine loopN (nc) _ (fun j ih6 hj6 => ?_)
    have hnx := nxM_rng (I 156) n m one other j
    refine r_iload (d := mX6_next) (pc := 6) (i := 4) (v := (j : Int)) dX6_next_6 rfl ?_
    refine r_aload_n (d := mX6_next) (pc := 8) (i := 0) (v := 155) dX6_next_8 rfl rfl ?_
    refine r_getRs (d := mX6_next) (pc := 9) (a := 155) (kd := 6) (j := 0) (x := 156) dX6_next_9 flRX6_7 ly155 (by decide) (by decide) rfl hM.1 ?_
    refine r_iconst (d := mX6_next) (pc := 12) (n := 0) dX6_next_12 ?_
    refine r_ialds (d := mX6_next) (pc := 13) (a := 156) (x := (nc : Int)) dX6_next_13 ly156 (by decide) (by decide) (hc) ?_
    refine r_icmp_ge (d := mX6_next) (pc := 14) (tgt := 171) dX6_next_14 (by decide) (fun h14 => ?_) (fun h14 => ?_)
    · refine r_iload_n (d := mX6_next) (pc := 171) (i := 3) (v := nxM (I 156) n m one other j) dX6_next_171 rfl rfl ?_
      exact r_iret (d := mX6_next) (pc := 172) dX6_next_172 rfl (rtI (by rw [show j = nc by omega]) (by rfl)) (by decide) (by decide)
    · have T56 : WP (k + 2) mX6_next none (0, 0) (Rt (some (.inl (nxM (I 156) n m one other nc))) (lay0, I, P)) 56 [(0, .inr (some 155)), (1, .inl one), (2, .inl other), (3, .inl (nxM (I 156) n m one other j)), (4, .inl (j : Int)), (5, .inl (bI (0 ≤ one ∧ (I 156 (12 + one) = (j : Int) ∨ I 156 (12 + other) = (j : Int)))))] [] (lay0, I, P) := by
        have T125 : WP (k + 2) mX6_next none (0, 0) (Rt (some (.inl (nxM (I 156) n m one other nc))) (lay0, I, P)) 125 [(0, .inr (some 155)), (1, .inl one), (2, .inl other), (3, .inl (nxM (I 156) n m one other j)), (4, .inl (j : Int)), (5, .inl (bI (0 ≤ one ∧ (I 156 (12 + one) = (j : Int) ∨ I 156 (12 + other) = (j : Int))))), (6, .inl (bI (mayM (I 156) n m one other (j : Int) = true)))] [] (lay0, I, P) := by
          refine r_iload (d := mX6_next) (pc := 125) (i := 6) (v := bI (mayM (I 156) n m one other (j : Int) = true)) dX6_next_125 rfl ?_
          refine r_ifb_eq (d := mX6_next) (pc := 127) (tgt := 163) dX6_next_127 (by decide) (fun h127 => ?_) (fun h127 => ?_)
          · refine r_iload_n (d := mX6_next) (pc := 163) (i := 3) (v := nxM (I 156) n m one other j) dX6_next_163 rfl rfl ?_
            refine r_istore_n (d := mX6_next) (pc := 164) (i := 3) (lv' := [(0, .inr (some 155)), (1, .inl one), (2, .inl other), (3, .inl (nxM (I 156) n m one other j)), (4, .inl (j : Int)), (5, .inl (bI (0 ≤ one ∧ (I 156 (12 + one) = (j : Int) ∨ I 156 (12 + other) = (j : Int))))), (6, .inl (bI (mayM (I 156) n m one other (j : Int) = true)))]) dX6_next_164 rfl (by decide) rfl rfl ?_
            refine r_iinc (d := mX6_next) (pc := 165) (i := 4) (v := (j : Int)) (y := ((j + 1 : Nat) : Int)) (lv' := [(0, .inr (some 155)), (1, .inl one), (2, .inl other), (3, .inl (nxM (I 156) n m one other j)), (4, .inl ((j + 1 : Nat) : Int)), (5, .inl (bI (0 ≤ one ∧ (I 156 (12 + one) = (j : Int) ∨ I 156 (12 + other) = (j : Int))))), (6, .inl (bI (mayM (I 156) n m one other (j : Int) = true)))]) dX6_next_165 rfl (by decide) rfl (by omega) rfl ?_
            refine r_goto (d := mX6_next) (pc := 168) (tgt := 6) dX6_next_168 (by decide) ?_
            refine WP.pick (lv' := [(0, .inr (some 155)), (1, .inl one), (2, .inl other), (3, .inl (nxM (I 156) n m one other j)), (4, .inl ((j + 1 : Nat) : Int))]) [0, 1, 2, 3, 4] rfl ?_
            exact wpE (by rw [nxM, if_neg (fun q => h127 q.1)] <;> simp) rfl (by rfl) (ih6 (by omega) (by omega))
          · refine r_iload_n (d := mX6_next) (pc := 130) (i := 3) (v := nxM (I 156) n m one other j) dX6_next_130 rfl rfl ?_
            refine r_if_lt (d := mX6_next) (pc := 131) (tgt := 158) dX6_next_131 (by decide) (fun h131 => ?_) (fun h131 => ?_)
            · refine r_iload (d := mX6_next) (pc := 158) (i := 4) (v := (j : Int)) dX6_next_158 rfl ?_
              refine r_goto (d := mX6_next) (pc := 160) (tgt := 164) dX6_next_160 (by decide) ?_
              refine r_istore_n (d := mX6_next) (pc := 164) (i := 3) (lv' := [(0, .inr (some 155)), (1, .inl one), (2, .inl other), (3, .inl (j : Int)), (4, .inl (j : Int)), (5, .inl (bI (0 ≤ one ∧ (I 156 (12 + one) = (j : Int) ∨ I 156 (12 + other) = (j : Int))))), (6, .inl (bI (mayM (I 156) n m one other (j : Int) = true)))]) dX6_next_164 rfl (by decide) rfl rfl ?_
              refine r_iinc (d := mX6_next) (pc := 165) (i := 4) (v := (j : Int)) (y := ((j + 1 : Nat) : Int)) (lv' := [(0, .inr (some 155)), (1, .inl one), (2, .inl other), (3, .inl (j : Int)), (4, .inl ((j + 1 : Nat) : Int)), (5, .inl (bI (0 ≤ one ∧ (I 156 (12 + one) = (j : Int) ∨ I 156 (12 + other) = (j : Int))))), (6, .inl (bI (mayM (I 156) n m one other (j : Int) = true)))]) dX6_next_165 rfl (by decide) rfl (by omega) rfl ?_
              refine r_goto (d := mX6_next) (pc := 168) (tgt := 6) dX6_next_168 (by decide) ?_
              refine WP.pick (lv' := [(0, .inr (some 155)), (1, .inl one), (2, .inl other), (3, .inl (j : Int)), (4, .inl ((j + 1 : Nat) : Int))]) [0, 1, 2, 3, 4] rfl ?_
              exact wpE (by rw [nxM, if_pos ⟨h127, Or.inl h131⟩] <;> simp) rfl (by rfl) (ih6 (by omega) (by omega))
            · refine r_aload_n (d := mX6_next) (pc := 134) (i := 0) (v := 155) dX6_next_134 rfl rfl ?_
              refine r_getRs (d := mX6_next) (pc := 135) (a := 155) (kd := 6) (j := 0) (x := 156) dX6_next_135 flRX6_7 ly155 (by decide) (by decide) rfl hM.1 ?_
              refine r_iload (d := mX6_next) (pc := 138) (i := 4) (v := (j : Int)) dX6_next_138 rfl ?_
              refine r_iconst (d := mX6_next) (pc := 140) (n := 4) dX6_next_140 ?_
              refine r_cS2 (d := mX6_next) (pc := 141) (dj := mX6_at) dX6_next_141 mlRX6_65 staX6_at okX6_at (by decide) rfl (Nat.le_of_ble_eq_true rfl) (by decide) (by decide) (Fn_X6_at (k + 1) I P (j : Int) 4 (by omega) (by omega) (by omega) (by omega)) ?_
              refine r_ialds (d := mX6_next) (pc := 144) (a := 156) (x := (I 156 (28 + 5 * (j : Int) + 4))) dX6_next_144 ly156 (by omega) (by omega) (rfl) ?_
              refine r_aload_n (d := mX6_next) (pc := 145) (i := 0) (v := 155) dX6_next_145 rfl rfl ?_
              refine r_getRs (d := mX6_next) (pc := 146) (a := 155) (kd := 6) (j := 0) (x := 156) dX6_next_146 flRX6_7 ly155 (by decide) (by decide) rfl hM.1 ?_
              refine r_iload_n (d := mX6_next) (pc := 149) (i := 3) (v := nxM (I 156) n m one other j) dX6_next_149 rfl rfl ?_
              refine r_iconst (d := mX6_next) (pc := 150) (n := 4) dX6_next_150 ?_
              refine r_cS2 (d := mX6_next) (pc := 151) (dj := mX6_at) dX6_next_151 mlRX6_65 staX6_at okX6_at (by decide) rfl (Nat.le_of_ble_eq_true rfl) (by decide) (by decide) (Fn_X6_at (k + 1) I P (nxM (I 156) n m one other j) 4 (by omega) (by omega) (by omega) (by omega)) ?_
              refine r_ialds (d := mX6_next) (pc := 154) (a := 156) (x := (I 156 (28 + 5 * (nxM (I 156) n m one other j) + 4))) dX6_next_154 ly156 (by omega) (by omega) (rfl) ?_
              refine r_icmp_ge (d := mX6_next) (pc := 155) (tgt := 163) dX6_next_155 (by decide) (fun h155 => ?_) (fun h155 => ?_)
              · refine r_iload_n (d := mX6_next) (pc := 163) (i := 3) (v := nxM (I 156) n m one other j) dX6_next_163 rfl rfl ?_
                refine r_istore_n (d := mX6_next) (pc := 164) (i := 3) (lv' := [(0, .inr (some 155)), (1, .inl one), (2, .inl other), (3, .inl (nxM (I 156) n m one other j)), (4, .inl (j : Int)), (5, .inl (bI (0 ≤ one ∧ (I 156 (12 + one) = (j : Int) ∨ I 156 (12 + other) = (j : Int))))), (6, .inl (bI (mayM (I 156) n m one other (j : Int) = true)))]) dX6_next_164 rfl (by decide) rfl rfl ?_
                refine r_iinc (d := mX6_next) (pc := 165) (i := 4) (v := (j : Int)) (y := ((j + 1 : Nat) : Int)) (lv' := [(0, .inr (some 155)), (1, .inl one), (2, .inl other), (3, .inl (nxM (I 156) n m one other j)), (4, .inl ((j + 1 : Nat) : Int)), (5, .inl (bI (0 ≤ one ∧ (I 156 (12 + one) = (j : Int) ∨ I 156 (12 + other) = (j : Int))))), (6, .inl (bI (mayM (I 156) n m one other (j : Int) = true)))]) dX6_next_165 rfl (by decide) rfl (by omega) rfl ?_
                refine r_goto (d := mX6_next) (pc := 168) (tgt := 6) dX6_next_168 (by decide) ?_
                refine WP.pick (lv' := [(0, .inr (some 155)), (1, .inl one), (2, .inl other), (3, .inl (nxM (I 156) n m one other j)), (4, .inl ((j + 1 : Nat) : Int))]) [0, 1, 2, 3, 4] rfl ?_
                exact wpE (by rw [nxM, if_neg (fun q => q.2.elim h131 (by omega))] <;> simp) rfl (by rfl) (ih6 (by omega) (by omega))
              · refine r_iload (d := mX6_next) (pc := 158) (i := 4) (v := (j : Int)) dX6_next_158 rfl ?_
                refine r_goto (d := mX6_next) (pc := 160) (tgt := 164) dX6_next_160 (by decide) ?_
                refine r_istore_n (d := mX6_next) (pc := 164) (i := 3) (lv' := [(0, .inr (some 155)), (1, .inl one), (2, .inl other), (3, .inl (j : Int)), (4, .inl (j : Int)), (5, .inl (bI (0 ≤ one ∧ (I 156 (12 + one) = (j : Int) ∨ I 156 (12 + other) = (j : Int))))), (6, .inl (bI (mayM (I 156) n m one other (j : Int) = true)))]) dX6_next_164 rfl (by decide) rfl rfl ?_
                refine r_iinc (d := mX6_next) (pc := 165) (i := 4) (v := (j : Int)) (y := ((j + 1 : Nat) : Int)) (lv' := [(0, .inr (some 155)), (1, .inl one), (2, .inl other), (3, .inl (j : Int)), (4, .inl ((j + 1 : Nat) : Int)), (5, .inl (bI (0 ≤ one ∧ (I 156 (12 + one) = (j : Int) ∨ I 156 (12 + other) = (j : Int))))), (6, .inl (bI (mayM (I 156) n m one other (j : Int) = true)))]) dX6_next_165 rfl (by decide) rfl (by omega) rfl ?_
                refine r_goto (d := mX6_next) (pc := 168) (tgt := 6) dX6_next_168 (by decide) ?_
                refine WP.pick (lv' := [(0, .inr (some 155)), (1, .inl one), (2, .inl other), (3, .inl (j : Int)), (4, .inl ((j + 1 : Nat) : Int))]) [0, 1, 2, 3, 4] rfl ?_
                exact wpE (by rw [nxM, if_pos ⟨h127, Or.inr (by omega)⟩] <;> simp) rfl (by rfl) (ih6 (by omega) (by omega))
        refine r_aload_n (d := mX6_next) (pc := 56) (i := 0) (v := 155) dX6_next_56 rfl rfl ?_
        refine r_getRs (d := mX6_next) (pc := 57) (a := 155) (kd := 6) (j := 0) (x := 156) dX6_next_57 flRX6_7 ly155 (by decide) (by decide) rfl hM.1 ?_
        refine r_iload (d := mX6_next) (pc := 60) (i := 4) (v := (j : Int)) dX6_next_60 rfl ?_
        refine r_iconst (d := mX6_next) (pc := 62) (n := 0) dX6_next_62 ?_
        refine r_cS2 (d := mX6_next) (pc := 63) (dj := mX6_at) dX6_next_63 mlRX6_65 staX6_at okX6_at (by decide) rfl (Nat.le_of_ble_eq_true rfl) (by decide) (by decide) (Fn_X6_at (k + 1) I P (j : Int) 0 (by omega) (by omega) (by omega) (by omega)) ?_
        refine r_ialds (d := mX6_next) (pc := 66) (a := 156) (x := (I 156 (28 + 5 * (j : Int) + 0))) dX6_next_66 ly156 (by omega) (by omega) (rfl) ?_
        refine r_iconst (d := mX6_next) (pc := 67) (n := 1) dX6_next_67 ?_
        refine r_icmp_ne (d := mX6_next) (pc := 68) (tgt := 122) dX6_next_68 (by decide) (fun h68 => ?_) (fun h68 => ?_)
        · refine r_iconst (d := mX6_next) (pc := 122) (n := 0) dX6_next_122 ?_
          refine r_istore (d := mX6_next) (pc := 123) (i := 6) (lv' := [(0, .inr (some 155)), (1, .inl one), (2, .inl other), (3, .inl (nxM (I 156) n m one other j)), (4, .inl (j : Int)), (5, .inl (bI (0 ≤ one ∧ (I 156 (12 + one) = (j : Int) ∨ I 156 (12 + other) = (j : Int))))), (6, .inl 0)]) dX6_next_123 (by decide) rfl rfl ?_
          exact wpE (by rw [bI_f (p := mayM (I 156) n m one other (j : Int) = true) (by simp only [mayM, Bool.and_eq_true, decide_eq_true_eq, Bool.not_eq_true', decide_eq_false_iff_not]; exact fun q => h68 q.1.1.1.1.1)]) (by rfl) (by rfl) T125
        · refine r_aload_n (d := mX6_next) (pc := 71) (i := 0) (v := 155) dX6_next_71 rfl rfl ?_
          refine r_getRs (d := mX6_next) (pc := 72) (a := 155) (kd := 6) (j := 0) (x := 156) dX6_next_72 flRX6_7 ly155 (by decide) (by decide) rfl hM.1 ?_
          refine r_iload (d := mX6_next) (pc := 75) (i := 4) (v := (j : Int)) dX6_next_75 rfl ?_
          refine r_iconst (d := mX6_next) (pc := 77) (n := 2) dX6_next_77 ?_
          refine r_cS2 (d := mX6_next) (pc := 78) (dj := mX6_at) dX6_next_78 mlRX6_65 staX6_at okX6_at (by decide) rfl (Nat.le_of_ble_eq_true rfl) (by decide) (by decide) (Fn_X6_at (k + 1) I P (j : Int) 2 (by omega) (by omega) (by omega) (by omega)) ?_
          refine r_ialds (d := mX6_next) (pc := 81) (a := 156) (x := (I 156 (28 + 5 * (j : Int) + 2))) dX6_next_81 ly156 (by omega) (by omega) (rfl) ?_
          refine r_iconst (d := mX6_next) (pc := 82) (n := 1) dX6_next_82 ?_
          refine r_icmp_ne (d := mX6_next) (pc := 83) (tgt := 122) dX6_next_83 (by decide) (fun h83 => ?_) (fun h83 => ?_)
          · refine r_iconst (d := mX6_next) (pc := 122) (n := 0) dX6_next_122 ?_
            refine r_istore (d := mX6_next) (pc := 123) (i := 6) (lv' := [(0, .inr (some 155)), (1, .inl one), (2, .inl other), (3, .inl (nxM (I 156) n m one other j)), (4, .inl (j : Int)), (5, .inl (bI (0 ≤ one ∧ (I 156 (12 + one) = (j : Int) ∨ I 156 (12 + other) = (j : Int))))), (6, .inl 0)]) dX6_next_123 (by decide) rfl rfl ?_
            exact wpE (by rw [bI_f (p := mayM (I 156) n m one other (j : Int) = true) (by simp only [mayM, Bool.and_eq_true, decide_eq_true_eq, Bool.not_eq_true', decide_eq_false_iff_not]; exact fun q => h83 q.1.1.1.1.2)]) (by rfl) (by rfl) T125
          · refine r_aload_n (d := mX6_next) (pc := 86) (i := 0) (v := 155) dX6_next_86 rfl rfl ?_
            refine r_iload (d := mX6_next) (pc := 87) (i := 4) (v := (j : Int)) dX6_next_87 rfl ?_
            refine r_cV1 (d := mX6_next) (pc := 89) (dj := mX6_marksOf) (a := 155) (kd := 6) dX6_next_89 mlRX6_55 inX6_marksOf selX6_marksOf rfl ly155 (by decide) okX6_marksOf (by decide) rfl (Nat.le_of_ble_eq_true rfl) (by decide) (by decide) (Fn_X6_marksOf (k + 1) I P hM m (hm) hm3 (j : Int)) ?_
            refine r_if_ne (d := mX6_next) (pc := 92) (tgt := 122) dX6_next_92 (by decide) (fun h92 => ?_) (fun h92 => ?_)
            · refine r_iconst (d := mX6_next) (pc := 122) (n := 0) dX6_next_122 ?_
              refine r_istore (d := mX6_next) (pc := 123) (i := 6) (lv' := [(0, .inr (some 155)), (1, .inl one), (2, .inl other), (3, .inl (nxM (I 156) n m one other j)), (4, .inl (j : Int)), (5, .inl (bI (0 ≤ one ∧ (I 156 (12 + one) = (j : Int) ∨ I 156 (12 + other) = (j : Int))))), (6, .inl 0)]) dX6_next_123 (by decide) rfl rfl ?_
              exact wpE (by rw [bI_f (p := mayM (I 156) n m one other (j : Int) = true) (by simp only [mayM, Bool.and_eq_true, decide_eq_true_eq, Bool.not_eq_true', decide_eq_false_iff_not]; exact fun q => h92 q.1.1.1.2)]) (by rfl) (by rfl) T125
            · refine r_aload_n (d := mX6_next) (pc := 95) (i := 0) (v := 155) dX6_next_95 rfl rfl ?_
              refine r_iload (d := mX6_next) (pc := 96) (i := 4) (v := (j : Int)) dX6_next_96 rfl ?_
              refine r_cV1 (d := mX6_next) (pc := 98) (dj := mX6_readers) (a := 155) (kd := 6) dX6_next_98 mlRX6_59 inX6_readers selX6_readers rfl ly155 (by decide) okX6_readers (by decide) rfl (Nat.le_of_ble_eq_true rfl) (by decide) (by decide) (Fn_X6_readers k I P hM n (hn) hn6 (j : Int)) ?_
              refine r_if_ne (d := mX6_next) (pc := 101) (tgt := 122) dX6_next_101 (by decide) (fun h101 => ?_) (fun h101 => ?_)
              · refine r_iconst (d := mX6_next) (pc := 122) (n := 0) dX6_next_122 ?_
                refine r_istore (d := mX6_next) (pc := 123) (i := 6) (lv' := [(0, .inr (some 155)), (1, .inl one), (2, .inl other), (3, .inl (nxM (I 156) n m one other j)), (4, .inl (j : Int)), (5, .inl (bI (0 ≤ one ∧ (I 156 (12 + one) = (j : Int) ∨ I 156 (12 + other) = (j : Int))))), (6, .inl 0)]) dX6_next_123 (by decide) rfl rfl ?_
                exact wpE (by rw [bI_f (p := mayM (I 156) n m one other (j : Int) = true) (by simp only [mayM, Bool.and_eq_true, decide_eq_true_eq, Bool.not_eq_true', decide_eq_false_iff_not]; exact fun q => h101 q.1.1.2)]) (by rfl) (by rfl) T125
              · refine r_aload_n (d := mX6_next) (pc := 104) (i := 0) (v := 155) dX6_next_104 rfl rfl ?_
                refine r_iload (d := mX6_next) (pc := 105) (i := 4) (v := (j : Int)) dX6_next_105 rfl ?_
                refine r_cV1 (d := mX6_next) (pc := 107) (dj := mX6_isOfOrder) (a := 155) (kd := 6) dX6_next_107 mlRX6_62 inX6_isOfOrder selX6_isOfOrder rfl ly155 (by decide) okX6_isOfOrder (by decide) rfl (Nat.le_of_ble_eq_true rfl) (by decide) (by decide) (Fn_X6_isOfOrder k I P hM n (hn) hn6 (j : Int)) ?_
                refine r_ifb_ne (d := mX6_next) (pc := 110) (tgt := 122) dX6_next_110 (by decide) (fun h110 => ?_) (fun h110 => ?_)
                · refine r_iconst (d := mX6_next) (pc := 122) (n := 0) dX6_next_122 ?_
                  refine r_istore (d := mX6_next) (pc := 123) (i := 6) (lv' := [(0, .inr (some 155)), (1, .inl one), (2, .inl other), (3, .inl (nxM (I 156) n m one other j)), (4, .inl (j : Int)), (5, .inl (bI (0 ≤ one ∧ (I 156 (12 + one) = (j : Int) ∨ I 156 (12 + other) = (j : Int))))), (6, .inl 0)]) dX6_next_123 (by decide) rfl rfl ?_
                  exact wpE (by rw [bI_f (p := mayM (I 156) n m one other (j : Int) = true) (by simp only [mayM, Bool.and_eq_true, decide_eq_true_eq, Bool.not_eq_true', decide_eq_false_iff_not]; exact fun q => by rw [h110] at q; exact absurd q.1.2 (by decide))]) (by rfl) (by rfl) T125
                · refine r_iload (d := mX6_next) (pc := 113) (i := 5) (v := bI (0 ≤ one ∧ (I 156 (12 + one) = (j : Int) ∨ I 156 (12 + other) = (j : Int)))) dX6_next_113 rfl ?_
                  refine r_ifb_ne (d := mX6_next) (pc := 115) (tgt := 122) dX6_next_115 (by decide) (fun h115 => ?_) (fun h115 => ?_)
                  · refine r_iconst (d := mX6_next) (pc := 122) (n := 0) dX6_next_122 ?_
                    refine r_istore (d := mX6_next) (pc := 123) (i := 6) (lv' := [(0, .inr (some 155)), (1, .inl one), (2, .inl other), (3, .inl (nxM (I 156) n m one other j)), (4, .inl (j : Int)), (5, .inl (bI (0 ≤ one ∧ (I 156 (12 + one) = (j : Int) ∨ I 156 (12 + other) = (j : Int))))), (6, .inl 0)]) dX6_next_123 (by decide) rfl rfl ?_
                    exact wpE (by rw [bI_f (p := mayM (I 156) n m one other (j : Int) = true) (by simp only [mayM, Bool.and_eq_true, decide_eq_true_eq, Bool.not_eq_true', decide_eq_false_iff_not]; exact fun q => q.2 h115)]) (by rfl) (by rfl) T125
                  · refine r_iconst (d := mX6_next) (pc := 118) (n := 1) dX6_next_118 ?_
                    refine r_goto (d := mX6_next) (pc := 119) (tgt := 123) dX6_next_119 (by decide) ?_
                    refine r_istore (d := mX6_next) (pc := 123) (i := 6) (lv' := [(0, .inr (some 155)), (1, .inl one), (2, .inl other), (3, .inl (nxM (I 156) n m one other j)), (4, .inl (j : Int)), (5, .inl (bI (0 ≤ one ∧ (I 156 (12 + one) = (j : Int) ∨ I 156 (12 + other) = (j : Int))))), (6, .inl 1)]) dX6_next_123 (by decide) rfl rfl ?_
                    exact wpE (by rw [bI_t (p := mayM (I 156) n m one other (j : Int) = true) (by simp only [mayM, Bool.and_eq_true, decide_eq_true_eq, Bool.not_eq_true', decide_eq_false_iff_not]; exact ⟨⟨⟨⟨⟨h68, h83⟩, h92⟩, h101⟩, by simpa using h110⟩, h115⟩)]) (by rfl) (by rfl) T125
      refine r_iload_n (d := mX6_next) (pc := 17) (i := 1) (v := one) dX6_next_17 rfl rfl ?_
      refine r_if_lt (d := mX6_next) (pc := 18) (tgt := 53) dX6_next_18 (by decide) (fun h18 => ?_) (fun h18 => ?_)
      · refine r_iconst (d := mX6_next) (pc := 53) (n := 0) dX6_next_53 ?_
        refine r_istore (d := mX6_next) (pc := 54) (i := 5) (lv' := [(0, .inr (some 155)), (1, .inl one), (2, .inl other), (3, .inl (nxM (I 156) n m one other j)), (4, .inl (j : Int)), (5, .inl 0)]) dX6_next_54 (by decide) rfl rfl ?_
        exact wpE (by rw [bI_f (fun q => by omega)]) (by rfl) (by rfl) T56
      · refine r_aload_n (d := mX6_next) (pc := 21) (i := 0) (v := 155) dX6_next_21 rfl rfl ?_
        refine r_getRs (d := mX6_next) (pc := 22) (a := 155) (kd := 6) (j := 0) (x := 156) dX6_next_22 flRX6_7 ly155 (by decide) (by decide) rfl hM.1 ?_
        refine r_bipush (d := mX6_next) (pc := 25) (n := 12) dX6_next_25 ?_
        refine r_iload_n (d := mX6_next) (pc := 27) (i := 1) (v := one) dX6_next_27 rfl rfl ?_
        refine r_iadd (d := mX6_next) (pc := 28) dX6_next_28 ?_
        refine r_ialds (d := mX6_next) (pc := 29) (a := 156) (x := (I 156 (12 + one))) dX6_next_29 ly156 (by omega) (by omega) (rfl) ?_
        refine r_iload (d := mX6_next) (pc := 30) (i := 4) (v := (j : Int)) dX6_next_30 rfl ?_
        refine r_icmp_eq (d := mX6_next) (pc := 32) (tgt := 49) dX6_next_32 (by decide) (fun h32 => ?_) (fun h32 => ?_)
        · refine r_iconst (d := mX6_next) (pc := 49) (n := 1) dX6_next_49 ?_
          refine r_goto (d := mX6_next) (pc := 50) (tgt := 54) dX6_next_50 (by decide) ?_
          refine r_istore (d := mX6_next) (pc := 54) (i := 5) (lv' := [(0, .inr (some 155)), (1, .inl one), (2, .inl other), (3, .inl (nxM (I 156) n m one other j)), (4, .inl (j : Int)), (5, .inl 1)]) dX6_next_54 (by decide) rfl rfl ?_
          exact wpE (by rw [bI_t ⟨by omega, Or.inl h32⟩]) (by rfl) (by rfl) T56
        · refine r_aload_n (d := mX6_next) (pc := 35) (i := 0) (v := 155) dX6_next_35 rfl rfl ?_
          refine r_getRs (d := mX6_next) (pc := 36) (a := 155) (kd := 6) (j := 0) (x := 156) dX6_next_36 flRX6_7 ly155 (by decide) (by decide) rfl hM.1 ?_
          refine r_bipush (d := mX6_next) (pc := 39) (n := 12) dX6_next_39 ?_
          refine r_iload_n (d := mX6_next) (pc := 41) (i := 2) (v := other) dX6_next_41 rfl rfl ?_
          refine r_iadd (d := mX6_next) (pc := 42) dX6_next_42 ?_
          refine r_ialds (d := mX6_next) (pc := 43) (a := 156) (x := (I 156 (12 + other))) dX6_next_43 ly156 (by omega) (by omega) (rfl) ?_
          refine r_iload (d := mX6_next) (pc := 44) (i := 4) (v := (j : Int)) dX6_next_44 rfl ?_
          refine r_icmp_ne (d := mX6_next) (pc := 46) (tgt := 53) dX6_next_46 (by decide) (fun h46 => ?_) (fun h46 => ?_)
          · refine r_iconst (d := mX6_next) (pc := 53) (n := 0) dX6_next_53 ?_
            refine r_istore (d := mX6_next) (pc := 54) (i := 5) (lv' := [(0, .inr (some 155)), (1, .inl one), (2, .inl other), (3, .inl (nxM (I 156) n m one other j)), (4, .inl (j : Int)), (5, .inl 0)]) dX6_next_54 (by decide) rfl rfl ?_
            exact wpE (by rw [bI_f (fun q => q.2.elim h32 h46)]) (by rfl) (by rfl) T56
          · refine r_iconst (d := mX6_next) (pc := 49) (n := 1) dX6_next_49 ?_
            refine r_goto (d := mX6_next) (pc := 50) (tgt := 54) dX6_next_50 (by decide) ?_
            refine r_istore (d := mX6_next) (pc := 54) (i := 5) (lv' := [(0, .inr (some 155)), (1, .inl one), (2, .inl other), (3, .inl (nxM (I 156) n m one other j)), (4, .inl (j : Int)), (5, .inl 1)]) dX6_next_54 (by decide) rfl rfl ?_
            exact wpE (by rw [bI_t ⟨by omega, Or.inr h46⟩]) (by rfl) (by rfl) T56
  exact wpE (by simp [nxM]) rfl (by rfl) (L6 0 (by omega))
