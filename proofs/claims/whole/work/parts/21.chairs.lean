/-! ===== the model: chairs for names ===== -/
theorem arS_mUp (I : mIt) (a : Nat) (i v : Int) (g : Int → Int) : arS (mUp I a i v) a g = arS I a g := arS_arS I a _ g
theorem fset_self (s : Int → Int) {i v : Int} (h : s i = v) : fset s i v = s := by
  funext j
  unfold fset
  by_cases hj : j = i
  · rw [if_pos hj, hj, h]
  · rw [if_neg hj]
def guM (s : Int → Int) (n m nc : Nat) (name : Int) : Int → Int := frM (fset s (12 + name) (-1)) n m nc
def fr0 (s : Int → Int) (c : Nat) : Bool := decide (s (28 + 5 * (c : Int) + 0) = 0)
def cf0 (s : Int → Int) (nc : Nat) : Int := lowR (fr0 s) nc 0
def snR (s : Int → Int) (c : Int) : Nat → Int → Int
  | 0 => s
  | j + 1 => if s (12 + (j : Int)) = c then fset (fset (snR s c j) (12 + (j : Int)) (-1)) (20 + (j : Int)) (s (28 + 5 * c + 1)) else snR s c j
theorem snR_ne (s : Int → Int) (c : Int) (j : Nat) (hj : j ≤ 8) (i : Int) (h : i < 12 ∨ (12 + (j : Int) ≤ i ∧ i < 20) ∨ 20 + (j : Int) ≤ i) : snR s c j i = s i := by
  induction j with
  | zero => rfl
  | succ j ih =>
    unfold snR
    split
    · rw [fset_ne _ _ (by omega), fset_ne _ _ (by omega)]
      exact ih (by omega) (by omega)
    · exact ih (by omega) (by omega)
def cfS (s : Int → Int) (n m nc : Nat) (one other : Int) : Int → Int := if cf0 s nc = -1 ∧ ¬ nxM s n m one other nc < 0 then fset (snR s (nxM s n m one other nc) 8) 5 (s 5 + 1) else s
def cfV (s : Int → Int) (n m nc : Nat) (one other : Int) : Int := if cf0 s nc = -1 then nxM s n m one other nc else cf0 s nc
theorem cf0_rng (s : Int → Int) (nc : Nat) : cf0 s nc = -1 ∨ (0 ≤ cf0 s nc ∧ cf0 s nc < nc) := by
  have h0 := lowR_rng (fr0 s) nc 0
  unfold cf0
  omega
theorem cfV_rng (s : Int → Int) (n m nc : Nat) (one other : Int) : cfV s n m nc one other = -4 ∨ (0 ≤ cfV s n m nc one other ∧ cfV s n m nc one other < nc) := by
  have h0 := cf0_rng s nc
  have h1 := nxM_rng s n m one other nc
  unfold cfV
  split <;> omega
theorem cfS_ne (s : Int → Int) (n m nc : Nat) (one other : Int) {i : Int} (h : i < 12 ∨ 28 ≤ i) (h5 : i ≠ 5) : cfS s n m nc one other i = s i := by
  unfold cfS
  split
  · rw [fset_ne _ _ h5, snR_ne _ _ _ (by decide) _ (by omega)]
  · rfl
def gtS (s : Int → Int) (c name : Int) : Int → Int := fset (fset (fset (fset (fset (fset s (12 + name) c) (28 + 5 * c + 0) 1) (28 + 5 * c + 1) 0) (28 + 5 * c + 2) 0) (28 + 5 * c + 3) (-1)) (28 + 5 * c + 4) (s 7)
def getS (s : Int → Int) (n m nc : Nat) (name one other : Int) : Int → Int := if cfV s n m nc one other < 0 then cfS s n m nc one other else gtS (cfS s n m nc one other) (cfV s n m nc one other) name
def ikS (s : Int → Int) (c v : Int) : Int → Int := fset (fset (fset s (28 + 5 * c + 1) v) (28 + 5 * c + 2) 1) (28 + 5 * c + 3) (-1)
def stX (s : Int → Int) (c name : Int) : Int → Int := fset (fset (fset (fset s 6 (s 6 + 1)) (28 + 5 * c + 1) (s (20 + name))) (28 + 5 * c + 2) (if s 10 = 0 then 1 else 0)) (28 + 5 * c + 3) (if s 10 = 0 then -1 else s 1 + s 10)
def siB (s : Int → Int) (n m nc : Nat) (name one other : Int) : Bool := decide (0 ≤ s (12 + name) ∨ 0 ≤ cfV s n m nc one other)
def siS (s : Int → Int) (n m nc : Nat) (name one other : Int) : Int → Int := if 0 ≤ s (12 + name) then s else if cfV s n m nc one other < 0 then getS s n m nc name one other else stX (getS s n m nc name one other) (cfV s n m nc one other) name
set_option maxRecDepth 20000 in
set_option maxHeartbeats 4000000 in
theorem Fn_X6_givesUp (k : Nat) (I : mIt) (P : mPt) (hM : isMd P) (n : Nat) (hn : I 156 3 = n) (hn6 : n ≤ 6) (m : Nat) (hm : I 156 2 = m) (hm3 : m ≤ 3) (nc : Nat) (hc : I 156 0 = nc) (hc7 : nc ≤ 7) (name : Int) (hnm0 : 0 ≤ name) (hnm8 : name < 8) : WP (k + 3) mX6_givesUp none (0, 0) (Rt none (lay0, arS I 156 (guM (I 156) n m nc name), P)) 0 [(0, .inr (some 155)), (1, .inl name)] [] (lay0, I, P) := by
  refine r_aload_n (d := mX6_givesUp) (pc := 0) (i := 0) (v := 155) dX6_givesUp_0 rfl rfl ?_
  refine r_getRs (d := mX6_givesUp) (pc := 1) (a := 155) (kd := 6) (j := 0) (x := 156) dX6_givesUp_1 flRX6_7 ly155 (by decide) (by decide) rfl hM.1 ?_
  refine r_bipush (d := mX6_givesUp) (pc := 4) (n := 12) dX6_givesUp_4 ?_
  refine r_iload_n (d := mX6_givesUp) (pc := 6) (i := 1) (v := name) dX6_givesUp_6 rfl rfl ?_
  refine r_iadd (d := mX6_givesUp) (pc := 7) dX6_givesUp_7 ?_
  refine r_iconst (d := mX6_givesUp) (pc := 8) (n := (-1)) dX6_givesUp_8 ?_
  refine r_iasts (d := mX6_givesUp) (pc := 9) (a := 156) (lay0, arS I 156 (fset (I 156) (12 + name) (-1)), P) dX6_givesUp_9 ly156 (by omega) (by omega) rfl ?_
  refine r_aload_n (d := mX6_givesUp) (pc := 10) (i := 0) (v := 155) dX6_givesUp_10 rfl rfl ?_
  refine r_cV0 (d := mX6_givesUp) (pc := 11) (dj := mX6_frees) (a := 155) (kd := 6) dX6_givesUp_11 mlRX6_68 inX6_frees selX6_frees rfl ly155 (by decide) okX6_frees (by decide) rfl (Nat.le_of_ble_eq_true rfl) (by decide) (by decide) (Fn_X6_frees k (arS I 156 (fset (I 156) (12 + name) (-1))) P hM n (by show (fset (I 156) (12 + name) (-1)) 3 = _; rw [fset_ne _ _ (by omega)]; exact hn) hn6 m (by show (fset (I 156) (12 + name) (-1)) 2 = _; rw [fset_ne _ _ (by omega)]; exact hm) hm3 nc (by show (fset (I 156) (12 + name) (-1)) 0 = _; rw [fset_ne _ _ (by omega)]; exact hc) hc7 ) ?_
  refine wpE (lv' := [(0, .inr (some 155)), (1, .inl name)]) (st' := []) (M' := (lay0, arS I 156 (frM (fset (I 156) (12 + name) (-1)) n m nc), P)) rfl rfl (memE (arS_arS _ _ _ _)) ?_
  exact r_ret (d := mX6_givesUp) (pc := 14) dX6_givesUp_14 rfl (rtV (by rfl)) (by decide) (by decide)
set_option maxRecDepth 20000 in
set_option maxHeartbeats 4000000 in
theorem Fn_X6_next (k : Nat) (I : mIt) (P : mPt) (hM : isMd P) (n : Nat) (hn : I 156 3 = n) (hn6 : n ≤ 6) (m : Nat) (hm : I 156 2 = m) (hm3 : m ≤ 3) (nc : Nat) (hc : I 156 0 = nc) (hc7 : nc ≤ 7) (one other : Int) (ho1 : -1 ≤ one) (ho2 : one < 8) (ho3 : -1 ≤ other) (ho4 : other < 8) (ho5 : 0 ≤ one → 0 ≤ other) : WP (k + 2) mX6_next none (0, 0) (Rt (some (.inl (nxM (I 156) n m one other nc))) (lay0, I, P)) 0 [(0, .inr (some 155)), (1, .inl one), (2, .inl other)] [] (lay0, I, P) := by
  refine r_bipush (d := mX6_next) (pc := 0) (n := (-4)) dX6_next_0 ?_
  refine r_istore_n (d := mX6_next) (pc := 2) (i := 3) (lv' := [(0, .inr (some 155)), (1, .inl one), (2, .inl other), (3, .inl (-4))]) dX6_next_2 rfl (by decide) rfl rfl ?_
  refine r_iconst (d := mX6_next) (pc := 3) (n := 0) dX6_next_3 ?_
  refine r_istore (d := mX6_next) (pc := 4) (i := 4) (lv' := [(0, .inr (some 155)), (1, .inl one), (2, .inl other), (3, .inl (-4)), (4, .inl 0)]) dX6_next_4 (by decide) rfl rfl ?_
  have L6 : ∀ j : Nat, j ≤ nc → WP (k + 2) mX6_next none (0, 0) (Rt (some (.inl (nxM (I 156) n m one other nc))) (lay0, I, P)) 6 [(0, .inr (some 155)), (1, .inl one), (2, .inl other), (3, .inl (nxM (I 156) n m one other j)), (4, .inl (j : Int))] [] (lay0, I, P) := by
    refine loopN (nc) _ (fun j ih6 hj6 => ?_)
    have hnx := nxM_rng (I 156) n m one other j
    refine r_iload (d := mX6_next) (pc := 6) (i := 4) (v := (j : Int)) dX6_next_6 rfl ?_
    refine r_aload_n (d := mX6_next) (pc := 8) (i := 0) (v := 155) dX6_next_8 rfl rfl ?_
    refine r_getRs (d := mX6_next) (pc := 9) (a := 155) (kd := 6) (j := 0) (x := 156) dX6_next_9 flRX6_7 ly155 (by decide) (by decide) rfl hM.1 ?_
    refine r_iconst (d := mX6_next) (pc := 12) (n := 0) dX6_next_12 ?_
    refine r_ialds (d := mX6_next) (pc := 13) (a := 156) (x := (nc : Int)) dX6_next_13 ly156 (by decide) (by decide) (hc) ?_
    refine r_icmp_ge (d := mX6_next) (pc := 14) (tgt := 171) dX6_next_14 (by decide) (fun h14 => ?_) (fun h14 => ?_)
    · refine r_iload_n (d := mX6_next) (pc := 171) (i := 3) (v := nxM (I 156) n m one other j) dX6_next_171 rfl rfl ?_
      exact r_iret (d := mX6_next) (pc := 172) dX6_next_172 rfl (rtI (by rw [show j = nc by omega]) (by rfl)) (by decide) (by decide)
    · have T56 : WP (k + 2) mX6_next none (0, 0) (Rt (some (.inl (nxM (I 156) n m one other nc))) (lay0, I, P)) 56 [(0, .inr (some 155)), (1, .inl one), (2, .inl other), (3, .inl (nxM (I 156) n m one other j)), (4, .inl (j : Int)), (5, .inl (bI (0 ≤ one ∧ (I 156 (12 + one) = (j : Int) ∨ I 156 (12 + other) = (j : Int)))))] [] (lay0, I, P) := by
        have T125 : WP (k + 2) mX6_next none (0, 0) (Rt (some (.inl (nxM (I 156) n m one other nc))) (lay0, I, P)) 125 [(0, .inr (some 155)), (1, .inl one), (2, .inl other), (3, .inl (nxM (I 156) n m one other j)), (4, .inl (j : Int)), (5, .inl (bI (0 ≤ one ∧ (I 156 (12 + one) = (j : Int) ∨ I 156 (12 + other) = (j : Int))))), (6, .inl (bI (mayM (I 156) n m one other (j : Int) = true)))] [] (lay0, I, P) := by
          refine r_iload (d := mX6_next) (pc := 125) (i := 6) (v := bI (mayM (I 156) n m one other (j : Int) = true)) dX6_next_125 rfl ?_
          refine r_ifb_eq (d := mX6_next) (pc := 127) (tgt := 163) dX6_next_127 (by decide) (fun h127 => ?_) (fun h127 => ?_)
          · refine r_iload_n (d := mX6_next) (pc := 163) (i := 3) (v := nxM (I 156) n m one other j) dX6_next_163 rfl rfl ?_
            refine r_istore_n (d := mX6_next) (pc := 164) (i := 3) (lv' := [(0, .inr (some 155)), (1, .inl one), (2, .inl other), (3, .inl (nxM (I 156) n m one other j)), (4, .inl (j : Int)), (5, .inl (bI (0 ≤ one ∧ (I 156 (12 + one) = (j : Int) ∨ I 156 (12 + other) = (j : Int))))), (6, .inl (bI (mayM (I 156) n m one other (j : Int) = true)))]) dX6_next_164 rfl (by decide) rfl rfl ?_
            refine r_iinc (d := mX6_next) (pc := 165) (i := 4) (v := (j : Int)) (y := ((j + 1 : Nat) : Int)) (lv' := [(0, .inr (some 155)), (1, .inl one), (2, .inl other), (3, .inl (nxM (I 156) n m one other j)), (4, .inl ((j + 1 : Nat) : Int)), (5, .inl (bI (0 ≤ one ∧ (I 156 (12 + one) = (j : Int) ∨ I 156 (12 + other) = (j : Int))))), (6, .inl (bI (mayM (I 156) n m one other (j : Int) = true)))]) dX6_next_165 rfl (by decide) rfl (by omega) rfl ?_
            refine r_goto (d := mX6_next) (pc := 168) (tgt := 6) dX6_next_168 (by decide) ?_
            refine WP.pick (lv' := [(0, .inr (some 155)), (1, .inl one), (2, .inl other), (3, .inl (nxM (I 156) n m one other j)), (4, .inl ((j + 1 : Nat) : Int))]) [0, 1, 2, 3, 4] rfl ?_
            exact wpE (by rw [nxM, if_neg (fun q => h127 q.1)] <;> simp) rfl (by rfl) (ih6 (by omega) (by omega))
          · refine r_iload_n (d := mX6_next) (pc := 130) (i := 3) (v := nxM (I 156) n m one other j) dX6_next_130 rfl rfl ?_
            refine r_if_lt (d := mX6_next) (pc := 131) (tgt := 158) dX6_next_131 (by decide) (fun h131 => ?_) (fun h131 => ?_)
            · refine r_iload (d := mX6_next) (pc := 158) (i := 4) (v := (j : Int)) dX6_next_158 rfl ?_
              refine r_goto (d := mX6_next) (pc := 160) (tgt := 164) dX6_next_160 (by decide) ?_
              refine r_istore_n (d := mX6_next) (pc := 164) (i := 3) (lv' := [(0, .inr (some 155)), (1, .inl one), (2, .inl other), (3, .inl (j : Int)), (4, .inl (j : Int)), (5, .inl (bI (0 ≤ one ∧ (I 156 (12 + one) = (j : Int) ∨ I 156 (12 + other) = (j : Int))))), (6, .inl (bI (mayM (I 156) n m one other (j : Int) = true)))]) dX6_next_164 rfl (by decide) rfl rfl ?_
              refine r_iinc (d := mX6_next) (pc := 165) (i := 4) (v := (j : Int)) (y := ((j + 1 : Nat) : Int)) (lv' := [(0, .inr (some 155)), (1, .inl one), (2, .inl other), (3, .inl (j : Int)), (4, .inl ((j + 1 : Nat) : Int)), (5, .inl (bI (0 ≤ one ∧ (I 156 (12 + one) = (j : Int) ∨ I 156 (12 + other) = (j : Int))))), (6, .inl (bI (mayM (I 156) n m one other (j : Int) = true)))]) dX6_next_165 rfl (by decide) rfl (by omega) rfl ?_
              refine r_goto (d := mX6_next) (pc := 168) (tgt := 6) dX6_next_168 (by decide) ?_
              refine WP.pick (lv' := [(0, .inr (some 155)), (1, .inl one), (2, .inl other), (3, .inl (j : Int)), (4, .inl ((j + 1 : Nat) : Int))]) [0, 1, 2, 3, 4] rfl ?_
              exact wpE (by rw [nxM, if_pos ⟨h127, Or.inl h131⟩] <;> simp) rfl (by rfl) (ih6 (by omega) (by omega))
            · refine r_aload_n (d := mX6_next) (pc := 134) (i := 0) (v := 155) dX6_next_134 rfl rfl ?_
              refine r_getRs (d := mX6_next) (pc := 135) (a := 155) (kd := 6) (j := 0) (x := 156) dX6_next_135 flRX6_7 ly155 (by decide) (by decide) rfl hM.1 ?_
              refine r_iload (d := mX6_next) (pc := 138) (i := 4) (v := (j : Int)) dX6_next_138 rfl ?_
              refine r_iconst (d := mX6_next) (pc := 140) (n := 4) dX6_next_140 ?_
              refine r_cS2 (d := mX6_next) (pc := 141) (dj := mX6_at) dX6_next_141 mlRX6_65 staX6_at okX6_at (by decide) rfl (Nat.le_of_ble_eq_true rfl) (by decide) (by decide) (Fn_X6_at (k + 1) I P (j : Int) 4 (by omega) (by omega) (by omega) (by omega)) ?_
              refine r_ialds (d := mX6_next) (pc := 144) (a := 156) (x := (I 156 (28 + 5 * (j : Int) + 4))) dX6_next_144 ly156 (by omega) (by omega) (rfl) ?_
              refine r_aload_n (d := mX6_next) (pc := 145) (i := 0) (v := 155) dX6_next_145 rfl rfl ?_
              refine r_getRs (d := mX6_next) (pc := 146) (a := 155) (kd := 6) (j := 0) (x := 156) dX6_next_146 flRX6_7 ly155 (by decide) (by decide) rfl hM.1 ?_
              refine r_iload_n (d := mX6_next) (pc := 149) (i := 3) (v := nxM (I 156) n m one other j) dX6_next_149 rfl rfl ?_
              refine r_iconst (d := mX6_next) (pc := 150) (n := 4) dX6_next_150 ?_
              refine r_cS2 (d := mX6_next) (pc := 151) (dj := mX6_at) dX6_next_151 mlRX6_65 staX6_at okX6_at (by decide) rfl (Nat.le_of_ble_eq_true rfl) (by decide) (by decide) (Fn_X6_at (k + 1) I P (nxM (I 156) n m one other j) 4 (by omega) (by omega) (by omega) (by omega)) ?_
              refine r_ialds (d := mX6_next) (pc := 154) (a := 156) (x := (I 156 (28 + 5 * (nxM (I 156) n m one other j) + 4))) dX6_next_154 ly156 (by omega) (by omega) (rfl) ?_
              refine r_icmp_ge (d := mX6_next) (pc := 155) (tgt := 163) dX6_next_155 (by decide) (fun h155 => ?_) (fun h155 => ?_)
              · refine r_iload_n (d := mX6_next) (pc := 163) (i := 3) (v := nxM (I 156) n m one other j) dX6_next_163 rfl rfl ?_
                refine r_istore_n (d := mX6_next) (pc := 164) (i := 3) (lv' := [(0, .inr (some 155)), (1, .inl one), (2, .inl other), (3, .inl (nxM (I 156) n m one other j)), (4, .inl (j : Int)), (5, .inl (bI (0 ≤ one ∧ (I 156 (12 + one) = (j : Int) ∨ I 156 (12 + other) = (j : Int))))), (6, .inl (bI (mayM (I 156) n m one other (j : Int) = true)))]) dX6_next_164 rfl (by decide) rfl rfl ?_
                refine r_iinc (d := mX6_next) (pc := 165) (i := 4) (v := (j : Int)) (y := ((j + 1 : Nat) : Int)) (lv' := [(0, .inr (some 155)), (1, .inl one), (2, .inl other), (3, .inl (nxM (I 156) n m one other j)), (4, .inl ((j + 1 : Nat) : Int)), (5, .inl (bI (0 ≤ one ∧ (I 156 (12 + one) = (j : Int) ∨ I 156 (12 + other) = (j : Int))))), (6, .inl (bI (mayM (I 156) n m one other (j : Int) = true)))]) dX6_next_165 rfl (by decide) rfl (by omega) rfl ?_
                refine r_goto (d := mX6_next) (pc := 168) (tgt := 6) dX6_next_168 (by decide) ?_
                refine WP.pick (lv' := [(0, .inr (some 155)), (1, .inl one), (2, .inl other), (3, .inl (nxM (I 156) n m one other j)), (4, .inl ((j + 1 : Nat) : Int))]) [0, 1, 2, 3, 4] rfl ?_
                exact wpE (by rw [nxM, if_neg (fun q => q.2.elim h131 (by omega))] <;> simp) rfl (by rfl) (ih6 (by omega) (by omega))
              · refine r_iload (d := mX6_next) (pc := 158) (i := 4) (v := (j : Int)) dX6_next_158 rfl ?_
                refine r_goto (d := mX6_next) (pc := 160) (tgt := 164) dX6_next_160 (by decide) ?_
                refine r_istore_n (d := mX6_next) (pc := 164) (i := 3) (lv' := [(0, .inr (some 155)), (1, .inl one), (2, .inl other), (3, .inl (j : Int)), (4, .inl (j : Int)), (5, .inl (bI (0 ≤ one ∧ (I 156 (12 + one) = (j : Int) ∨ I 156 (12 + other) = (j : Int))))), (6, .inl (bI (mayM (I 156) n m one other (j : Int) = true)))]) dX6_next_164 rfl (by decide) rfl rfl ?_
                refine r_iinc (d := mX6_next) (pc := 165) (i := 4) (v := (j : Int)) (y := ((j + 1 : Nat) : Int)) (lv' := [(0, .inr (some 155)), (1, .inl one), (2, .inl other), (3, .inl (j : Int)), (4, .inl ((j + 1 : Nat) : Int)), (5, .inl (bI (0 ≤ one ∧ (I 156 (12 + one) = (j : Int) ∨ I 156 (12 + other) = (j : Int))))), (6, .inl (bI (mayM (I 156) n m one other (j : Int) = true)))]) dX6_next_165 rfl (by decide) rfl (by omega) rfl ?_
                refine r_goto (d := mX6_next) (pc := 168) (tgt := 6) dX6_next_168 (by decide) ?_
                refine WP.pick (lv' := [(0, .inr (some 155)), (1, .inl one), (2, .inl other), (3, .inl (j : Int)), (4, .inl ((j + 1 : Nat) : Int))]) [0, 1, 2, 3, 4] rfl ?_
                exact wpE (by rw [nxM, if_pos ⟨h127, Or.inr (by omega)⟩] <;> simp) rfl (by rfl) (ih6 (by omega) (by omega))
        refine r_aload_n (d := mX6_next) (pc := 56) (i := 0) (v := 155) dX6_next_56 rfl rfl ?_
        refine r_getRs (d := mX6_next) (pc := 57) (a := 155) (kd := 6) (j := 0) (x := 156) dX6_next_57 flRX6_7 ly155 (by decide) (by decide) rfl hM.1 ?_
        refine r_iload (d := mX6_next) (pc := 60) (i := 4) (v := (j : Int)) dX6_next_60 rfl ?_
        refine r_iconst (d := mX6_next) (pc := 62) (n := 0) dX6_next_62 ?_
        refine r_cS2 (d := mX6_next) (pc := 63) (dj := mX6_at) dX6_next_63 mlRX6_65 staX6_at okX6_at (by decide) rfl (Nat.le_of_ble_eq_true rfl) (by decide) (by decide) (Fn_X6_at (k + 1) I P (j : Int) 0 (by omega) (by omega) (by omega) (by omega)) ?_
        refine r_ialds (d := mX6_next) (pc := 66) (a := 156) (x := (I 156 (28 + 5 * (j : Int) + 0))) dX6_next_66 ly156 (by omega) (by omega) (rfl) ?_
        refine r_iconst (d := mX6_next) (pc := 67) (n := 1) dX6_next_67 ?_
        refine r_icmp_ne (d := mX6_next) (pc := 68) (tgt := 122) dX6_next_68 (by decide) (fun h68 => ?_) (fun h68 => ?_)
        · refine r_iconst (d := mX6_next) (pc := 122) (n := 0) dX6_next_122 ?_
          refine r_istore (d := mX6_next) (pc := 123) (i := 6) (lv' := [(0, .inr (some 155)), (1, .inl one), (2, .inl other), (3, .inl (nxM (I 156) n m one other j)), (4, .inl (j : Int)), (5, .inl (bI (0 ≤ one ∧ (I 156 (12 + one) = (j : Int) ∨ I 156 (12 + other) = (j : Int))))), (6, .inl 0)]) dX6_next_123 (by decide) rfl rfl ?_
          exact wpE (by rw [bI_f (p := mayM (I 156) n m one other (j : Int) = true) (by simp only [mayM, Bool.and_eq_true, decide_eq_true_eq, Bool.not_eq_true', decide_eq_false_iff_not]; exact fun q => h68 q.1.1.1.1.1)]) (by rfl) (by rfl) T125
        · refine r_aload_n (d := mX6_next) (pc := 71) (i := 0) (v := 155) dX6_next_71 rfl rfl ?_
          refine r_getRs (d := mX6_next) (pc := 72) (a := 155) (kd := 6) (j := 0) (x := 156) dX6_next_72 flRX6_7 ly155 (by decide) (by decide) rfl hM.1 ?_
          refine r_iload (d := mX6_next) (pc := 75) (i := 4) (v := (j : Int)) dX6_next_75 rfl ?_
          refine r_iconst (d := mX6_next) (pc := 77) (n := 2) dX6_next_77 ?_
          refine r_cS2 (d := mX6_next) (pc := 78) (dj := mX6_at) dX6_next_78 mlRX6_65 staX6_at okX6_at (by decide) rfl (Nat.le_of_ble_eq_true rfl) (by decide) (by decide) (Fn_X6_at (k + 1) I P (j : Int) 2 (by omega) (by omega) (by omega) (by omega)) ?_
          refine r_ialds (d := mX6_next) (pc := 81) (a := 156) (x := (I 156 (28 + 5 * (j : Int) + 2))) dX6_next_81 ly156 (by omega) (by omega) (rfl) ?_
          refine r_iconst (d := mX6_next) (pc := 82) (n := 1) dX6_next_82 ?_
          refine r_icmp_ne (d := mX6_next) (pc := 83) (tgt := 122) dX6_next_83 (by decide) (fun h83 => ?_) (fun h83 => ?_)
          · refine r_iconst (d := mX6_next) (pc := 122) (n := 0) dX6_next_122 ?_
            refine r_istore (d := mX6_next) (pc := 123) (i := 6) (lv' := [(0, .inr (some 155)), (1, .inl one), (2, .inl other), (3, .inl (nxM (I 156) n m one other j)), (4, .inl (j : Int)), (5, .inl (bI (0 ≤ one ∧ (I 156 (12 + one) = (j : Int) ∨ I 156 (12 + other) = (j : Int))))), (6, .inl 0)]) dX6_next_123 (by decide) rfl rfl ?_
            exact wpE (by rw [bI_f (p := mayM (I 156) n m one other (j : Int) = true) (by simp only [mayM, Bool.and_eq_true, decide_eq_true_eq, Bool.not_eq_true', decide_eq_false_iff_not]; exact fun q => h83 q.1.1.1.1.2)]) (by rfl) (by rfl) T125
          · refine r_aload_n (d := mX6_next) (pc := 86) (i := 0) (v := 155) dX6_next_86 rfl rfl ?_
            refine r_iload (d := mX6_next) (pc := 87) (i := 4) (v := (j : Int)) dX6_next_87 rfl ?_
            refine r_cV1 (d := mX6_next) (pc := 89) (dj := mX6_marksOf) (a := 155) (kd := 6) dX6_next_89 mlRX6_55 inX6_marksOf selX6_marksOf rfl ly155 (by decide) okX6_marksOf (by decide) rfl (Nat.le_of_ble_eq_true rfl) (by decide) (by decide) (Fn_X6_marksOf (k + 1) I P hM m (hm) hm3 (j : Int)) ?_
            refine r_if_ne (d := mX6_next) (pc := 92) (tgt := 122) dX6_next_92 (by decide) (fun h92 => ?_) (fun h92 => ?_)
            · refine r_iconst (d := mX6_next) (pc := 122) (n := 0) dX6_next_122 ?_
              refine r_istore (d := mX6_next) (pc := 123) (i := 6) (lv' := [(0, .inr (some 155)), (1, .inl one), (2, .inl other), (3, .inl (nxM (I 156) n m one other j)), (4, .inl (j : Int)), (5, .inl (bI (0 ≤ one ∧ (I 156 (12 + one) = (j : Int) ∨ I 156 (12 + other) = (j : Int))))), (6, .inl 0)]) dX6_next_123 (by decide) rfl rfl ?_
              exact wpE (by rw [bI_f (p := mayM (I 156) n m one other (j : Int) = true) (by simp only [mayM, Bool.and_eq_true, decide_eq_true_eq, Bool.not_eq_true', decide_eq_false_iff_not]; exact fun q => h92 q.1.1.1.2)]) (by rfl) (by rfl) T125
            · refine r_aload_n (d := mX6_next) (pc := 95) (i := 0) (v := 155) dX6_next_95 rfl rfl ?_
              refine r_iload (d := mX6_next) (pc := 96) (i := 4) (v := (j : Int)) dX6_next_96 rfl ?_
              refine r_cV1 (d := mX6_next) (pc := 98) (dj := mX6_readers) (a := 155) (kd := 6) dX6_next_98 mlRX6_59 inX6_readers selX6_readers rfl ly155 (by decide) okX6_readers (by decide) rfl (Nat.le_of_ble_eq_true rfl) (by decide) (by decide) (Fn_X6_readers k I P hM n (hn) hn6 (j : Int)) ?_
              refine r_if_ne (d := mX6_next) (pc := 101) (tgt := 122) dX6_next_101 (by decide) (fun h101 => ?_) (fun h101 => ?_)
              · refine r_iconst (d := mX6_next) (pc := 122) (n := 0) dX6_next_122 ?_
                refine r_istore (d := mX6_next) (pc := 123) (i := 6) (lv' := [(0, .inr (some 155)), (1, .inl one), (2, .inl other), (3, .inl (nxM (I 156) n m one other j)), (4, .inl (j : Int)), (5, .inl (bI (0 ≤ one ∧ (I 156 (12 + one) = (j : Int) ∨ I 156 (12 + other) = (j : Int))))), (6, .inl 0)]) dX6_next_123 (by decide) rfl rfl ?_
                exact wpE (by rw [bI_f (p := mayM (I 156) n m one other (j : Int) = true) (by simp only [mayM, Bool.and_eq_true, decide_eq_true_eq, Bool.not_eq_true', decide_eq_false_iff_not]; exact fun q => h101 q.1.1.2)]) (by rfl) (by rfl) T125
              · refine r_aload_n (d := mX6_next) (pc := 104) (i := 0) (v := 155) dX6_next_104 rfl rfl ?_
                refine r_iload (d := mX6_next) (pc := 105) (i := 4) (v := (j : Int)) dX6_next_105 rfl ?_
                refine r_cV1 (d := mX6_next) (pc := 107) (dj := mX6_isOfOrder) (a := 155) (kd := 6) dX6_next_107 mlRX6_62 inX6_isOfOrder selX6_isOfOrder rfl ly155 (by decide) okX6_isOfOrder (by decide) rfl (Nat.le_of_ble_eq_true rfl) (by decide) (by decide) (Fn_X6_isOfOrder k I P hM n (hn) hn6 (j : Int)) ?_
                refine r_ifb_ne (d := mX6_next) (pc := 110) (tgt := 122) dX6_next_110 (by decide) (fun h110 => ?_) (fun h110 => ?_)
                · refine r_iconst (d := mX6_next) (pc := 122) (n := 0) dX6_next_122 ?_
                  refine r_istore (d := mX6_next) (pc := 123) (i := 6) (lv' := [(0, .inr (some 155)), (1, .inl one), (2, .inl other), (3, .inl (nxM (I 156) n m one other j)), (4, .inl (j : Int)), (5, .inl (bI (0 ≤ one ∧ (I 156 (12 + one) = (j : Int) ∨ I 156 (12 + other) = (j : Int))))), (6, .inl 0)]) dX6_next_123 (by decide) rfl rfl ?_
                  exact wpE (by rw [bI_f (p := mayM (I 156) n m one other (j : Int) = true) (by simp only [mayM, Bool.and_eq_true, decide_eq_true_eq, Bool.not_eq_true', decide_eq_false_iff_not]; exact fun q => by rw [h110] at q; exact absurd q.1.2 (by decide))]) (by rfl) (by rfl) T125
                · refine r_iload (d := mX6_next) (pc := 113) (i := 5) (v := bI (0 ≤ one ∧ (I 156 (12 + one) = (j : Int) ∨ I 156 (12 + other) = (j : Int)))) dX6_next_113 rfl ?_
                  refine r_ifb_ne (d := mX6_next) (pc := 115) (tgt := 122) dX6_next_115 (by decide) (fun h115 => ?_) (fun h115 => ?_)
                  · refine r_iconst (d := mX6_next) (pc := 122) (n := 0) dX6_next_122 ?_
                    refine r_istore (d := mX6_next) (pc := 123) (i := 6) (lv' := [(0, .inr (some 155)), (1, .inl one), (2, .inl other), (3, .inl (nxM (I 156) n m one other j)), (4, .inl (j : Int)), (5, .inl (bI (0 ≤ one ∧ (I 156 (12 + one) = (j : Int) ∨ I 156 (12 + other) = (j : Int))))), (6, .inl 0)]) dX6_next_123 (by decide) rfl rfl ?_
                    exact wpE (by rw [bI_f (p := mayM (I 156) n m one other (j : Int) = true) (by simp only [mayM, Bool.and_eq_true, decide_eq_true_eq, Bool.not_eq_true', decide_eq_false_iff_not]; exact fun q => q.2 h115)]) (by rfl) (by rfl) T125
                  · refine r_iconst (d := mX6_next) (pc := 118) (n := 1) dX6_next_118 ?_
                    refine r_goto (d := mX6_next) (pc := 119) (tgt := 123) dX6_next_119 (by decide) ?_
                    refine r_istore (d := mX6_next) (pc := 123) (i := 6) (lv' := [(0, .inr (some 155)), (1, .inl one), (2, .inl other), (3, .inl (nxM (I 156) n m one other j)), (4, .inl (j : Int)), (5, .inl (bI (0 ≤ one ∧ (I 156 (12 + one) = (j : Int) ∨ I 156 (12 + other) = (j : Int))))), (6, .inl 1)]) dX6_next_123 (by decide) rfl rfl ?_
                    exact wpE (by rw [bI_t (p := mayM (I 156) n m one other (j : Int) = true) (by simp only [mayM, Bool.and_eq_true, decide_eq_true_eq, Bool.not_eq_true', decide_eq_false_iff_not]; exact ⟨⟨⟨⟨⟨h68, h83⟩, h92⟩, h101⟩, by simpa using h110⟩, h115⟩)]) (by rfl) (by rfl) T125
      refine r_iload_n (d := mX6_next) (pc := 17) (i := 1) (v := one) dX6_next_17 rfl rfl ?_
      refine r_if_lt (d := mX6_next) (pc := 18) (tgt := 53) dX6_next_18 (by decide) (fun h18 => ?_) (fun h18 => ?_)
      · refine r_iconst (d := mX6_next) (pc := 53) (n := 0) dX6_next_53 ?_
        refine r_istore (d := mX6_next) (pc := 54) (i := 5) (lv' := [(0, .inr (some 155)), (1, .inl one), (2, .inl other), (3, .inl (nxM (I 156) n m one other j)), (4, .inl (j : Int)), (5, .inl 0)]) dX6_next_54 (by decide) rfl rfl ?_
        exact wpE (by rw [bI_f (fun q => by omega)]) (by rfl) (by rfl) T56
      · refine r_aload_n (d := mX6_next) (pc := 21) (i := 0) (v := 155) dX6_next_21 rfl rfl ?_
        refine r_getRs (d := mX6_next) (pc := 22) (a := 155) (kd := 6) (j := 0) (x := 156) dX6_next_22 flRX6_7 ly155 (by decide) (by decide) rfl hM.1 ?_
        refine r_bipush (d := mX6_next) (pc := 25) (n := 12) dX6_next_25 ?_
        refine r_iload_n (d := mX6_next) (pc := 27) (i := 1) (v := one) dX6_next_27 rfl rfl ?_
        refine r_iadd (d := mX6_next) (pc := 28) dX6_next_28 ?_
        refine r_ialds (d := mX6_next) (pc := 29) (a := 156) (x := (I 156 (12 + one))) dX6_next_29 ly156 (by omega) (by omega) (rfl) ?_
        refine r_iload (d := mX6_next) (pc := 30) (i := 4) (v := (j : Int)) dX6_next_30 rfl ?_
        refine r_icmp_eq (d := mX6_next) (pc := 32) (tgt := 49) dX6_next_32 (by decide) (fun h32 => ?_) (fun h32 => ?_)
        · refine r_iconst (d := mX6_next) (pc := 49) (n := 1) dX6_next_49 ?_
          refine r_goto (d := mX6_next) (pc := 50) (tgt := 54) dX6_next_50 (by decide) ?_
          refine r_istore (d := mX6_next) (pc := 54) (i := 5) (lv' := [(0, .inr (some 155)), (1, .inl one), (2, .inl other), (3, .inl (nxM (I 156) n m one other j)), (4, .inl (j : Int)), (5, .inl 1)]) dX6_next_54 (by decide) rfl rfl ?_
          exact wpE (by rw [bI_t ⟨by omega, Or.inl h32⟩]) (by rfl) (by rfl) T56
        · refine r_aload_n (d := mX6_next) (pc := 35) (i := 0) (v := 155) dX6_next_35 rfl rfl ?_
          refine r_getRs (d := mX6_next) (pc := 36) (a := 155) (kd := 6) (j := 0) (x := 156) dX6_next_36 flRX6_7 ly155 (by decide) (by decide) rfl hM.1 ?_
          refine r_bipush (d := mX6_next) (pc := 39) (n := 12) dX6_next_39 ?_
          refine r_iload_n (d := mX6_next) (pc := 41) (i := 2) (v := other) dX6_next_41 rfl rfl ?_
          refine r_iadd (d := mX6_next) (pc := 42) dX6_next_42 ?_
          refine r_ialds (d := mX6_next) (pc := 43) (a := 156) (x := (I 156 (12 + other))) dX6_next_43 ly156 (by omega) (by omega) (rfl) ?_
          refine r_iload (d := mX6_next) (pc := 44) (i := 4) (v := (j : Int)) dX6_next_44 rfl ?_
          refine r_icmp_ne (d := mX6_next) (pc := 46) (tgt := 53) dX6_next_46 (by decide) (fun h46 => ?_) (fun h46 => ?_)
          · refine r_iconst (d := mX6_next) (pc := 53) (n := 0) dX6_next_53 ?_
            refine r_istore (d := mX6_next) (pc := 54) (i := 5) (lv' := [(0, .inr (some 155)), (1, .inl one), (2, .inl other), (3, .inl (nxM (I 156) n m one other j)), (4, .inl (j : Int)), (5, .inl 0)]) dX6_next_54 (by decide) rfl rfl ?_
            exact wpE (by rw [bI_f (fun q => q.2.elim h32 h46)]) (by rfl) (by rfl) T56
          · refine r_iconst (d := mX6_next) (pc := 49) (n := 1) dX6_next_49 ?_
            refine r_goto (d := mX6_next) (pc := 50) (tgt := 54) dX6_next_50 (by decide) ?_
            refine r_istore (d := mX6_next) (pc := 54) (i := 5) (lv' := [(0, .inr (some 155)), (1, .inl one), (2, .inl other), (3, .inl (nxM (I 156) n m one other j)), (4, .inl (j : Int)), (5, .inl 1)]) dX6_next_54 (by decide) rfl rfl ?_
            exact wpE (by rw [bI_t ⟨by omega, Or.inr h46⟩]) (by rfl) (by rfl) T56
  exact wpE (by simp [nxM]) rfl (by rfl) (L6 0 (by omega))
set_option maxRecDepth 20000 in
set_option maxHeartbeats 4000000 in
theorem Fn_X6_chairFor (k : Nat) (I : mIt) (P : mPt) (hM : isMd P) (n : Nat) (hn : I 156 3 = n) (hn6 : n ≤ 6) (m : Nat) (hm : I 156 2 = m) (hm3 : m ≤ 3) (nc : Nat) (hc : I 156 0 = nc) (hc7 : nc ≤ 7) (hs5 : 0 ≤ I 156 5 ∧ I 156 5 ≤ 2000000000) (one other : Int) (ho1 : -1 ≤ one) (ho2 : one < 8) (ho3 : -1 ≤ other) (ho4 : other < 8) (ho5 : 0 ≤ one → 0 ≤ other) : WP (k + 3) mX6_chairFor none (0, 0) (Rt (some (.inl (cfV (I 156) n m nc one other))) (lay0, arS I 156 (cfS (I 156) n m nc one other), P)) 0 [(0, .inr (some 155)), (1, .inl one), (2, .inl other)] [] (lay0, I, P) := by
  refine r_iconst (d := mX6_chairFor) (pc := 0) (n := 0) dX6_chairFor_0 ?_
  refine r_istore_n (d := mX6_chairFor) (pc := 1) (i := 3) (lv' := [(0, .inr (some 155)), (1, .inl one), (2, .inl other), (3, .inl 0)]) dX6_chairFor_1 rfl (by decide) rfl rfl ?_
  have L2 : ∀ j : Nat, j ≤ nc → cf0 (I 156) nc = lowR (fr0 (I 156)) (nc - j) j → WP (k + 3) mX6_chairFor none (0, 0) (Rt (some (.inl (cfV (I 156) n m nc one other))) (lay0, arS I 156 (cfS (I 156) n m nc one other), P)) 2 [(0, .inr (some 155)), (1, .inl one), (2, .inl other), (3, .inl (j : Int))] [] (lay0, I, P) := by
    refine loopN (nc) _ (fun j ih2 hj2 hl2 => ?_)
    refine r_iload_n (d := mX6_chairFor) (pc := 2) (i := 3) (v := (j : Int)) dX6_chairFor_2 rfl rfl ?_
    refine r_aload_n (d := mX6_chairFor) (pc := 3) (i := 0) (v := 155) dX6_chairFor_3 rfl rfl ?_
    refine r_getRs (d := mX6_chairFor) (pc := 4) (a := 155) (kd := 6) (j := 0) (x := 156) dX6_chairFor_4 flRX6_7 ly155 (by decide) (by decide) rfl hM.1 ?_
    refine r_iconst (d := mX6_chairFor) (pc := 7) (n := 0) dX6_chairFor_7 ?_
    refine r_ialds (d := mX6_chairFor) (pc := 8) (a := 156) (x := (nc : Int)) dX6_chairFor_8 ly156 (by decide) (by decide) (hc) ?_
    refine r_icmp_ge (d := mX6_chairFor) (pc := 9) (tgt := 33) dX6_chairFor_9 (by decide) (fun h9 => ?_) (fun h9 => ?_)
    · have hcf : cf0 (I 156) nc = -1 := by rw [hl2, show nc - j = 0 by omega]; rfl
      refine r_aload_n (d := mX6_chairFor) (pc := 33) (i := 0) (v := 155) dX6_chairFor_33 rfl rfl ?_
      refine r_iload_n (d := mX6_chairFor) (pc := 34) (i := 1) (v := one) dX6_chairFor_34 rfl rfl ?_
      refine r_iload_n (d := mX6_chairFor) (pc := 35) (i := 2) (v := other) dX6_chairFor_35 rfl rfl ?_
      refine r_cV2 (d := mX6_chairFor) (pc := 36) (dj := mX6_next) (a := 155) (kd := 6) dX6_chairFor_36 mlRX6_71 inX6_next selX6_next rfl ly155 (by decide) okX6_next (by decide) rfl (Nat.le_of_ble_eq_true rfl) (by decide) (by decide) (Fn_X6_next k I P hM n (hn) hn6 m (hm) hm3 nc (hc) hc7 one other (by omega) (by omega) (by omega) (by omega) (by omega)) ?_
      refine r_istore_n (d := mX6_chairFor) (pc := 39) (i := 3) (lv' := [(0, .inr (some 155)), (1, .inl one), (2, .inl other), (3, .inl (nxM (I 156) n m one other nc))]) dX6_chairFor_39 rfl (by decide) rfl rfl ?_
      have hnx := nxM_rng (I 156) n m one other nc
      refine r_iconst (d := mX6_chairFor) (pc := 40) (n := 0) dX6_chairFor_40 ?_
      refine r_istore (d := mX6_chairFor) (pc := 41) (i := 4) (lv' := [(0, .inr (some 155)), (1, .inl one), (2, .inl other), (3, .inl (nxM (I 156) n m one other nc)), (4, .inl 0)]) dX6_chairFor_41 (by decide) rfl rfl ?_
      refine WP.pick (lv' := [(0, .inr (some 155)), (3, .inl (nxM (I 156) n m one other nc)), (4, .inl 0)]) [0, 3, 4] rfl ?_
      have L43 : ∀ z : Nat, z ≤ 8 → (nxM (I 156) n m one other nc < 0 → z = 0) → WP (k + 3) mX6_chairFor none (0, 0) (Rt (some (.inl (cfV (I 156) n m nc one other))) (lay0, arS I 156 (cfS (I 156) n m nc one other), P)) 43 [(0, .inr (some 155)), (3, .inl (nxM (I 156) n m one other nc)), (4, .inl (z : Int))] [] (lay0, arS I 156 (snR (I 156) (nxM (I 156) n m one other nc) z), P) := by
        refine loopN (8) _ (fun z ih43 hj43 hz => ?_)
        refine r_iload (d := mX6_chairFor) (pc := 43) (i := 4) (v := (z : Int)) dX6_chairFor_43 rfl ?_
        refine r_bipush (d := mX6_chairFor) (pc := 45) (n := 8) dX6_chairFor_45 ?_
        refine r_icmp_ge (d := mX6_chairFor) (pc := 47) (tgt := 105) dX6_chairFor_47 (by decide) (fun h47 => ?_) (fun h47 => ?_)
        · refine r_aload_n (d := mX6_chairFor) (pc := 105) (i := 0) (v := 155) dX6_chairFor_105 rfl rfl ?_
          refine r_getRs (d := mX6_chairFor) (pc := 106) (a := 155) (kd := 6) (j := 0) (x := 156) dX6_chairFor_106 flRX6_7 ly155 (by decide) (by decide) rfl hM.1 ?_
          refine r_iconst (d := mX6_chairFor) (pc := 109) (n := 5) dX6_chairFor_109 ?_
          refine r_dup2 (d := mX6_chairFor) (pc := 110) dX6_chairFor_110 ?_
          refine r_ialds (d := mX6_chairFor) (pc := 111) (a := 156) (x := (I 156 5)) dX6_chairFor_111 ly156 (by decide) (by decide) (by show (snR (I 156) (nxM (I 156) n m one other nc) z) 5 = _; rw [snR_ne _ _ _ (by omega) _ (by omega)]) ?_
          refine r_iload_n (d := mX6_chairFor) (pc := 112) (i := 3) (v := nxM (I 156) n m one other nc) dX6_chairFor_112 rfl rfl ?_
          refine r_if_lt (d := mX6_chairFor) (pc := 113) (tgt := 120) dX6_chairFor_113 (by decide) (fun h113 => ?_) (fun h113 => ?_)
          · refine r_iconst (d := mX6_chairFor) (pc := 120) (n := 0) dX6_chairFor_120 ?_
            refine r_iadd (d := mX6_chairFor) (pc := 121) dX6_chairFor_121 ?_
            refine r_iasts (d := mX6_chairFor) (pc := 122) (a := 156) (lay0, arS I 156 (fset (snR (I 156) (nxM (I 156) n m one other nc) z) 5 ((I 156 5) + 0)), P) dX6_chairFor_122 ly156 (by decide) (by decide) (memE (arS_up _ _ _ _ _)) ?_
            refine r_iload_n (d := mX6_chairFor) (pc := 123) (i := 3) (v := nxM (I 156) n m one other nc) dX6_chairFor_123 rfl rfl ?_
            exact r_iret (d := mX6_chairFor) (pc := 124) dX6_chairFor_124 rfl (rtI (by rw [cfV, if_pos hcf]) (by refine memE ?_; rw [cfS, if_neg (fun q => q.2 h113), hz h113, fset_self (snR (I 156) (nxM (I 156) n m one other nc) 0) (by show I 156 5 = _; omega)]; rfl)) (by decide) (by decide)
          · refine r_iconst (d := mX6_chairFor) (pc := 116) (n := 1) dX6_chairFor_116 ?_
            refine r_goto (d := mX6_chairFor) (pc := 117) (tgt := 121) dX6_chairFor_117 (by decide) ?_
            refine r_iadd (d := mX6_chairFor) (pc := 121) dX6_chairFor_121 ?_
            refine r_iasts (d := mX6_chairFor) (pc := 122) (a := 156) (lay0, arS I 156 (fset (snR (I 156) (nxM (I 156) n m one other nc) z) 5 ((I 156 5) + 1)), P) dX6_chairFor_122 ly156 (by decide) (by decide) (memE (arS_up _ _ _ _ _)) ?_
            refine r_iload_n (d := mX6_chairFor) (pc := 123) (i := 3) (v := nxM (I 156) n m one other nc) dX6_chairFor_123 rfl rfl ?_
            exact r_iret (d := mX6_chairFor) (pc := 124) dX6_chairFor_124 rfl (rtI (by rw [cfV, if_pos hcf]) (by refine memE ?_; rw [cfS, if_pos ⟨hcf, h113⟩, show z = 8 by omega])) (by decide) (by decide)
        · refine r_iload_n (d := mX6_chairFor) (pc := 50) (i := 3) (v := nxM (I 156) n m one other nc) dX6_chairFor_50 rfl rfl ?_
          refine r_if_lt (d := mX6_chairFor) (pc := 51) (tgt := 105) dX6_chairFor_51 (by decide) (fun h51 => ?_) (fun h51 => ?_)
          · refine r_aload_n (d := mX6_chairFor) (pc := 105) (i := 0) (v := 155) dX6_chairFor_105 rfl rfl ?_
            refine r_getRs (d := mX6_chairFor) (pc := 106) (a := 155) (kd := 6) (j := 0) (x := 156) dX6_chairFor_106 flRX6_7 ly155 (by decide) (by decide) rfl hM.1 ?_
            refine r_iconst (d := mX6_chairFor) (pc := 109) (n := 5) dX6_chairFor_109 ?_
            refine r_dup2 (d := mX6_chairFor) (pc := 110) dX6_chairFor_110 ?_
            refine r_ialds (d := mX6_chairFor) (pc := 111) (a := 156) (x := (I 156 5)) dX6_chairFor_111 ly156 (by decide) (by decide) (by show (snR (I 156) (nxM (I 156) n m one other nc) z) 5 = _; rw [snR_ne _ _ _ (by omega) _ (by omega)]) ?_
            refine r_iload_n (d := mX6_chairFor) (pc := 112) (i := 3) (v := nxM (I 156) n m one other nc) dX6_chairFor_112 rfl rfl ?_
            refine r_if_lt (d := mX6_chairFor) (pc := 113) (tgt := 120) dX6_chairFor_113 (by decide) (fun h113 => ?_) (fun h113 => ?_)
            · refine r_iconst (d := mX6_chairFor) (pc := 120) (n := 0) dX6_chairFor_120 ?_
              refine r_iadd (d := mX6_chairFor) (pc := 121) dX6_chairFor_121 ?_
              refine r_iasts (d := mX6_chairFor) (pc := 122) (a := 156) (lay0, arS I 156 (fset (snR (I 156) (nxM (I 156) n m one other nc) z) 5 ((I 156 5) + 0)), P) dX6_chairFor_122 ly156 (by decide) (by decide) (memE (arS_up _ _ _ _ _)) ?_
              refine r_iload_n (d := mX6_chairFor) (pc := 123) (i := 3) (v := nxM (I 156) n m one other nc) dX6_chairFor_123 rfl rfl ?_
              exact r_iret (d := mX6_chairFor) (pc := 124) dX6_chairFor_124 rfl (rtI (by rw [cfV, if_pos hcf]) (by refine memE ?_; rw [cfS, if_neg (fun q => q.2 h113), hz h113, fset_self (snR (I 156) (nxM (I 156) n m one other nc) 0) (by show I 156 5 = _; omega)]; rfl)) (by decide) (by decide)
            · refine r_iconst (d := mX6_chairFor) (pc := 116) (n := 1) dX6_chairFor_116 ?_
              refine r_goto (d := mX6_chairFor) (pc := 117) (tgt := 121) dX6_chairFor_117 (by decide) ?_
              refine r_iadd (d := mX6_chairFor) (pc := 121) dX6_chairFor_121 ?_
              refine r_iasts (d := mX6_chairFor) (pc := 122) (a := 156) (lay0, arS I 156 (fset (snR (I 156) (nxM (I 156) n m one other nc) z) 5 ((I 156 5) + 1)), P) dX6_chairFor_122 ly156 (by decide) (by decide) (memE (arS_up _ _ _ _ _)) ?_
              refine r_iload_n (d := mX6_chairFor) (pc := 123) (i := 3) (v := nxM (I 156) n m one other nc) dX6_chairFor_123 rfl rfl ?_
              exact r_iret (d := mX6_chairFor) (pc := 124) dX6_chairFor_124 rfl (rtI (by rw [cfV, if_pos hcf]) (by refine memE ?_; rw [cfS, if_pos ⟨hcf, h113⟩, show z = 8 by omega])) (by decide) (by decide)
          · refine r_aload_n (d := mX6_chairFor) (pc := 54) (i := 0) (v := 155) dX6_chairFor_54 rfl rfl ?_
            refine r_getRs (d := mX6_chairFor) (pc := 55) (a := 155) (kd := 6) (j := 0) (x := 156) dX6_chairFor_55 flRX6_7 ly155 (by decide) (by decide) rfl hM.1 ?_
            refine r_bipush (d := mX6_chairFor) (pc := 58) (n := 12) dX6_chairFor_58 ?_
            refine r_iload (d := mX6_chairFor) (pc := 60) (i := 4) (v := (z : Int)) dX6_chairFor_60 rfl ?_
            refine r_iadd (d := mX6_chairFor) (pc := 62) dX6_chairFor_62 ?_
            refine r_ialds (d := mX6_chairFor) (pc := 63) (a := 156) (x := (I 156 (12 + (z : Int)))) dX6_chairFor_63 ly156 (by omega) (by omega) (by show (snR (I 156) (nxM (I 156) n m one other nc) z) (12 + (z : Int)) = _; rw [snR_ne _ _ _ (by omega) _ (by omega)]) ?_
            refine r_iload_n (d := mX6_chairFor) (pc := 64) (i := 3) (v := nxM (I 156) n m one other nc) dX6_chairFor_64 rfl rfl ?_
            refine r_icmp_ne (d := mX6_chairFor) (pc := 65) (tgt := 99) dX6_chairFor_65 (by decide) (fun h65 => ?_) (fun h65 => ?_)
            · refine r_iinc (d := mX6_chairFor) (pc := 99) (i := 4) (v := (z : Int)) (y := ((z + 1 : Nat) : Int)) (lv' := [(0, .inr (some 155)), (3, .inl (nxM (I 156) n m one other nc)), (4, .inl ((z + 1 : Nat) : Int))]) dX6_chairFor_99 rfl (by decide) rfl (by omega) rfl ?_
              refine r_goto (d := mX6_chairFor) (pc := 102) (tgt := 43) dX6_chairFor_102 (by decide) ?_
              exact wpE (by simp) rfl (by refine memE ?_; rw [snR, if_neg h65]) (ih43 (by omega) (by omega) (by exact fun q => absurd q h51))
            · refine r_aload_n (d := mX6_chairFor) (pc := 68) (i := 0) (v := 155) dX6_chairFor_68 rfl rfl ?_
              refine r_getRs (d := mX6_chairFor) (pc := 69) (a := 155) (kd := 6) (j := 0) (x := 156) dX6_chairFor_69 flRX6_7 ly155 (by decide) (by decide) rfl hM.1 ?_
              refine r_bipush (d := mX6_chairFor) (pc := 72) (n := 12) dX6_chairFor_72 ?_
              refine r_iload (d := mX6_chairFor) (pc := 74) (i := 4) (v := (z : Int)) dX6_chairFor_74 rfl ?_
              refine r_iadd (d := mX6_chairFor) (pc := 76) dX6_chairFor_76 ?_
              refine r_iconst (d := mX6_chairFor) (pc := 77) (n := (-1)) dX6_chairFor_77 ?_
              refine r_iasts (d := mX6_chairFor) (pc := 78) (a := 156) (lay0, arS I 156 (fset (snR (I 156) (nxM (I 156) n m one other nc) z) (12 + (z : Int)) (-1)), P) dX6_chairFor_78 ly156 (by omega) (by omega) (memE (arS_up _ _ _ _ _)) ?_
              refine r_aload_n (d := mX6_chairFor) (pc := 79) (i := 0) (v := 155) dX6_chairFor_79 rfl rfl ?_
              refine r_getRs (d := mX6_chairFor) (pc := 80) (a := 155) (kd := 6) (j := 0) (x := 156) dX6_chairFor_80 flRX6_7 ly155 (by decide) (by decide) rfl hM.1 ?_
              refine r_bipush (d := mX6_chairFor) (pc := 83) (n := 20) dX6_chairFor_83 ?_
              refine r_iload (d := mX6_chairFor) (pc := 85) (i := 4) (v := (z : Int)) dX6_chairFor_85 rfl ?_
              refine r_iadd (d := mX6_chairFor) (pc := 87) dX6_chairFor_87 ?_
              refine r_aload_n (d := mX6_chairFor) (pc := 88) (i := 0) (v := 155) dX6_chairFor_88 rfl rfl ?_
              refine r_getRs (d := mX6_chairFor) (pc := 89) (a := 155) (kd := 6) (j := 0) (x := 156) dX6_chairFor_89 flRX6_7 ly155 (by decide) (by decide) rfl hM.1 ?_
              refine r_iload_n (d := mX6_chairFor) (pc := 92) (i := 3) (v := nxM (I 156) n m one other nc) dX6_chairFor_92 rfl rfl ?_
              refine r_iconst (d := mX6_chairFor) (pc := 93) (n := 1) dX6_chairFor_93 ?_
              refine r_cS2 (d := mX6_chairFor) (pc := 94) (dj := mX6_at) dX6_chairFor_94 mlRX6_65 staX6_at okX6_at (by decide) rfl (Nat.le_of_ble_eq_true rfl) (by decide) (by decide) (Fn_X6_at (k + 2) (arS I 156 (fset (snR (I 156) (nxM (I 156) n m one other nc) z) (12 + (z : Int)) (-1))) P (nxM (I 156) n m one other nc) 1 (by omega) (by omega) (by omega) (by omega)) ?_
              refine r_ialds (d := mX6_chairFor) (pc := 97) (a := 156) (x := (I 156 (28 + 5 * (nxM (I 156) n m one other nc) + 1))) dX6_chairFor_97 ly156 (by omega) (by omega) (by show (fset (snR (I 156) (nxM (I 156) n m one other nc) z) (12 + (z : Int)) (-1)) (28 + 5 * (nxM (I 156) n m one other nc) + 1) = _; rw [fset_ne _ _ (by omega), snR_ne _ _ _ (by omega) _ (by omega)]) ?_
              refine r_iasts (d := mX6_chairFor) (pc := 98) (a := 156) (lay0, arS I 156 (fset (fset (snR (I 156) (nxM (I 156) n m one other nc) z) (12 + (z : Int)) (-1)) (20 + (z : Int)) (I 156 (28 + 5 * (nxM (I 156) n m one other nc) + 1))), P) dX6_chairFor_98 ly156 (by omega) (by omega) (memE (arS_up _ _ _ _ _)) ?_
              refine r_iinc (d := mX6_chairFor) (pc := 99) (i := 4) (v := (z : Int)) (y := ((z + 1 : Nat) : Int)) (lv' := [(0, .inr (some 155)), (3, .inl (nxM (I 156) n m one other nc)), (4, .inl ((z + 1 : Nat) : Int))]) dX6_chairFor_99 rfl (by decide) rfl (by omega) rfl ?_
              refine r_goto (d := mX6_chairFor) (pc := 102) (tgt := 43) dX6_chairFor_102 (by decide) ?_
              exact wpE (by simp) rfl (by refine memE ?_; rw [snR, if_pos h65]) (ih43 (by omega) (by omega) (by exact fun q => absurd q h51))
      exact wpE (by simp) rfl (by refine memE ?_; exact (arS_self _ _).symm) (L43 0 (by omega) (by exact fun _ => rfl))
    · refine r_aload_n (d := mX6_chairFor) (pc := 12) (i := 0) (v := 155) dX6_chairFor_12 rfl rfl ?_
      refine r_getRs (d := mX6_chairFor) (pc := 13) (a := 155) (kd := 6) (j := 0) (x := 156) dX6_chairFor_13 flRX6_7 ly155 (by decide) (by decide) rfl hM.1 ?_
      refine r_iload_n (d := mX6_chairFor) (pc := 16) (i := 3) (v := (j : Int)) dX6_chairFor_16 rfl rfl ?_
      refine r_iconst (d := mX6_chairFor) (pc := 17) (n := 0) dX6_chairFor_17 ?_
      refine r_cS2 (d := mX6_chairFor) (pc := 18) (dj := mX6_at) dX6_chairFor_18 mlRX6_65 staX6_at okX6_at (by decide) rfl (Nat.le_of_ble_eq_true rfl) (by decide) (by decide) (Fn_X6_at (k + 2) I P (j : Int) 0 (by omega) (by omega) (by omega) (by omega)) ?_
      refine r_ialds (d := mX6_chairFor) (pc := 21) (a := 156) (x := (I 156 (28 + 5 * (j : Int) + 0))) dX6_chairFor_21 ly156 (by omega) (by omega) (rfl) ?_
      refine r_if_ne (d := mX6_chairFor) (pc := 22) (tgt := 27) dX6_chairFor_22 (by decide) (fun h22 => ?_) (fun h22 => ?_)
      · refine r_iinc (d := mX6_chairFor) (pc := 27) (i := 3) (v := (j : Int)) (y := ((j + 1 : Nat) : Int)) (lv' := [(0, .inr (some 155)), (1, .inl one), (2, .inl other), (3, .inl ((j + 1 : Nat) : Int))]) dX6_chairFor_27 rfl (by decide) rfl (by omega) rfl ?_
        refine r_goto (d := mX6_chairFor) (pc := 30) (tgt := 2) dX6_chairFor_30 (by decide) ?_
        exact wpE (by simp) rfl (by rfl) (ih2 (by omega) (by omega) (by rw [hl2, show nc - j = (nc - (j + 1)) + 1 by omega, lowR, if_neg (by simp only [fr0, decide_eq_true_eq]; exact h22)]))
      · refine r_iload_n (d := mX6_chairFor) (pc := 25) (i := 3) (v := (j : Int)) dX6_chairFor_25 rfl rfl ?_
        exact r_iret (d := mX6_chairFor) (pc := 26) dX6_chairFor_26 rfl (rtI (by rw [cfV, if_neg (by rw [hl2, show nc - j = (nc - j - 1) + 1 by omega, lowR, if_pos (by simp only [fr0, decide_eq_true_eq]; exact h22)]; omega)]; rw [hl2, show nc - j = (nc - j - 1) + 1 by omega, lowR, if_pos (by simp only [fr0, decide_eq_true_eq]; exact h22)]) (by refine memE ?_; rw [cfS, if_neg (fun q => by rw [hl2, show nc - j = (nc - j - 1) + 1 by omega, lowR, if_pos (by simp only [fr0, decide_eq_true_eq]; exact h22)] at q; omega)]; exact (arS_self _ _).symm)) (by decide) (by decide)
  exact wpE (by simp) rfl (by rfl) (L2 0 (by omega) (by rfl))
set_option maxRecDepth 20000 in
set_option maxHeartbeats 4000000 in
theorem Fn_X6_gets (k : Nat) (I : mIt) (P : mPt) (hM : isMd P) (n : Nat) (hn : I 156 3 = n) (hn6 : n ≤ 6) (m : Nat) (hm : I 156 2 = m) (hm3 : m ≤ 3) (nc : Nat) (hc : I 156 0 = nc) (hc7 : nc ≤ 7) (hs5 : 0 ≤ I 156 5 ∧ I 156 5 ≤ 2000000000) (name : Int) (hnm0 : 0 ≤ name) (hnm8 : name < 8) (one other : Int) (ho1 : -1 ≤ one) (ho2 : one < 8) (ho3 : -1 ≤ other) (ho4 : other < 8) (ho5 : 0 ≤ one → 0 ≤ other) : WP (k + 4) mX6_gets none (0, 0) (Rt (some (.inl (cfV (I 156) n m nc one other))) (lay0, arS I 156 (getS (I 156) n m nc name one other), P)) 0 [(0, .inr (some 155)), (1, .inl name), (2, .inl one), (3, .inl other)] [] (lay0, I, P) := by
  refine r_aload_n (d := mX6_gets) (pc := 0) (i := 0) (v := 155) dX6_gets_0 rfl rfl ?_
  refine r_iload_n (d := mX6_gets) (pc := 1) (i := 2) (v := one) dX6_gets_1 rfl rfl ?_
  refine r_iload_n (d := mX6_gets) (pc := 2) (i := 3) (v := other) dX6_gets_2 rfl rfl ?_
  refine r_cV2 (d := mX6_gets) (pc := 3) (dj := mX6_chairFor) (a := 155) (kd := 6) dX6_gets_3 mlRX6_74 inX6_chairFor selX6_chairFor rfl ly155 (by decide) okX6_chairFor (by decide) rfl (Nat.le_of_ble_eq_true rfl) (by decide) (by decide) (Fn_X6_chairFor k I P hM n (hn) hn6 m (hm) hm3 nc (hc) hc7 (hs5) one other (by omega) (by omega) (by omega) (by omega) (by omega)) ?_
  refine r_istore (d := mX6_gets) (pc := 6) (i := 4) (lv' := [(0, .inr (some 155)), (1, .inl name), (2, .inl one), (3, .inl other), (4, .inl (cfV (I 156) n m nc one other))]) dX6_gets_6 (by decide) rfl rfl ?_
  have hcv := cfV_rng (I 156) n m nc one other
  refine r_iload (d := mX6_gets) (pc := 8) (i := 4) (v := cfV (I 156) n m nc one other) dX6_gets_8 rfl ?_
  refine r_if_ge (d := mX6_gets) (pc := 10) (tgt := 16) dX6_gets_10 (by decide) (fun h10 => ?_) (fun h10 => ?_)
  · refine r_aload_n (d := mX6_gets) (pc := 16) (i := 0) (v := 155) dX6_gets_16 rfl rfl ?_
    refine r_getRs (d := mX6_gets) (pc := 17) (a := 155) (kd := 6) (j := 0) (x := 156) dX6_gets_17 flRX6_7 ly155 (by decide) (by decide) rfl hM.1 ?_
    refine r_bipush (d := mX6_gets) (pc := 20) (n := 12) dX6_gets_20 ?_
    refine r_iload_n (d := mX6_gets) (pc := 22) (i := 1) (v := name) dX6_gets_22 rfl rfl ?_
    refine r_iadd (d := mX6_gets) (pc := 23) dX6_gets_23 ?_
    refine r_iload (d := mX6_gets) (pc := 24) (i := 4) (v := cfV (I 156) n m nc one other) dX6_gets_24 rfl ?_
    refine r_iasts (d := mX6_gets) (pc := 26) (a := 156) (lay0, arS I 156 (fset (cfS (I 156) n m nc one other) (12 + name) (cfV (I 156) n m nc one other)), P) dX6_gets_26 ly156 (by omega) (by omega) (memE (arS_up _ _ _ _ _)) ?_
    refine r_aload_n (d := mX6_gets) (pc := 27) (i := 0) (v := 155) dX6_gets_27 rfl rfl ?_
    refine r_getRs (d := mX6_gets) (pc := 28) (a := 155) (kd := 6) (j := 0) (x := 156) dX6_gets_28 flRX6_7 ly155 (by decide) (by decide) rfl hM.1 ?_
    refine r_iload (d := mX6_gets) (pc := 31) (i := 4) (v := cfV (I 156) n m nc one other) dX6_gets_31 rfl ?_
    refine r_iconst (d := mX6_gets) (pc := 33) (n := 0) dX6_gets_33 ?_
    refine r_cS2 (d := mX6_gets) (pc := 34) (dj := mX6_at) dX6_gets_34 mlRX6_65 staX6_at okX6_at (by decide) rfl (Nat.le_of_ble_eq_true rfl) (by decide) (by decide) (Fn_X6_at (k + 3) (arS I 156 (fset (cfS (I 156) n m nc one other) (12 + name) (cfV (I 156) n m nc one other))) P (cfV (I 156) n m nc one other) 0 (by omega) (by omega) (by omega) (by omega)) ?_
    refine r_iconst (d := mX6_gets) (pc := 37) (n := 1) dX6_gets_37 ?_
    refine r_iasts (d := mX6_gets) (pc := 38) (a := 156) (lay0, arS I 156 (fset (fset (cfS (I 156) n m nc one other) (12 + name) (cfV (I 156) n m nc one other)) (28 + 5 * (cfV (I 156) n m nc one other) + 0) 1), P) dX6_gets_38 ly156 (by omega) (by omega) (memE (arS_up _ _ _ _ _)) ?_
    refine r_aload_n (d := mX6_gets) (pc := 39) (i := 0) (v := 155) dX6_gets_39 rfl rfl ?_
    refine r_getRs (d := mX6_gets) (pc := 40) (a := 155) (kd := 6) (j := 0) (x := 156) dX6_gets_40 flRX6_7 ly155 (by decide) (by decide) rfl hM.1 ?_
    refine r_iload (d := mX6_gets) (pc := 43) (i := 4) (v := cfV (I 156) n m nc one other) dX6_gets_43 rfl ?_
    refine r_iconst (d := mX6_gets) (pc := 45) (n := 1) dX6_gets_45 ?_
    refine r_cS2 (d := mX6_gets) (pc := 46) (dj := mX6_at) dX6_gets_46 mlRX6_65 staX6_at okX6_at (by decide) rfl (Nat.le_of_ble_eq_true rfl) (by decide) (by decide) (Fn_X6_at (k + 3) (arS I 156 (fset (fset (cfS (I 156) n m nc one other) (12 + name) (cfV (I 156) n m nc one other)) (28 + 5 * (cfV (I 156) n m nc one other) + 0) 1)) P (cfV (I 156) n m nc one other) 1 (by omega) (by omega) (by omega) (by omega)) ?_
    refine r_iconst (d := mX6_gets) (pc := 49) (n := 0) dX6_gets_49 ?_
    refine r_iasts (d := mX6_gets) (pc := 50) (a := 156) (lay0, arS I 156 (fset (fset (fset (cfS (I 156) n m nc one other) (12 + name) (cfV (I 156) n m nc one other)) (28 + 5 * (cfV (I 156) n m nc one other) + 0) 1) (28 + 5 * (cfV (I 156) n m nc one other) + 1) 0), P) dX6_gets_50 ly156 (by omega) (by omega) (memE (arS_up _ _ _ _ _)) ?_
    refine r_aload_n (d := mX6_gets) (pc := 51) (i := 0) (v := 155) dX6_gets_51 rfl rfl ?_
    refine r_getRs (d := mX6_gets) (pc := 52) (a := 155) (kd := 6) (j := 0) (x := 156) dX6_gets_52 flRX6_7 ly155 (by decide) (by decide) rfl hM.1 ?_
    refine r_iload (d := mX6_gets) (pc := 55) (i := 4) (v := cfV (I 156) n m nc one other) dX6_gets_55 rfl ?_
    refine r_iconst (d := mX6_gets) (pc := 57) (n := 2) dX6_gets_57 ?_
    refine r_cS2 (d := mX6_gets) (pc := 58) (dj := mX6_at) dX6_gets_58 mlRX6_65 staX6_at okX6_at (by decide) rfl (Nat.le_of_ble_eq_true rfl) (by decide) (by decide) (Fn_X6_at (k + 3) (arS I 156 (fset (fset (fset (cfS (I 156) n m nc one other) (12 + name) (cfV (I 156) n m nc one other)) (28 + 5 * (cfV (I 156) n m nc one other) + 0) 1) (28 + 5 * (cfV (I 156) n m nc one other) + 1) 0)) P (cfV (I 156) n m nc one other) 2 (by omega) (by omega) (by omega) (by omega)) ?_
    refine r_iconst (d := mX6_gets) (pc := 61) (n := 0) dX6_gets_61 ?_
    refine r_iasts (d := mX6_gets) (pc := 62) (a := 156) (lay0, arS I 156 (fset (fset (fset (fset (cfS (I 156) n m nc one other) (12 + name) (cfV (I 156) n m nc one other)) (28 + 5 * (cfV (I 156) n m nc one other) + 0) 1) (28 + 5 * (cfV (I 156) n m nc one other) + 1) 0) (28 + 5 * (cfV (I 156) n m nc one other) + 2) 0), P) dX6_gets_62 ly156 (by omega) (by omega) (memE (arS_up _ _ _ _ _)) ?_
    refine r_aload_n (d := mX6_gets) (pc := 63) (i := 0) (v := 155) dX6_gets_63 rfl rfl ?_
    refine r_getRs (d := mX6_gets) (pc := 64) (a := 155) (kd := 6) (j := 0) (x := 156) dX6_gets_64 flRX6_7 ly155 (by decide) (by decide) rfl hM.1 ?_
    refine r_iload (d := mX6_gets) (pc := 67) (i := 4) (v := cfV (I 156) n m nc one other) dX6_gets_67 rfl ?_
    refine r_iconst (d := mX6_gets) (pc := 69) (n := 3) dX6_gets_69 ?_
    refine r_cS2 (d := mX6_gets) (pc := 70) (dj := mX6_at) dX6_gets_70 mlRX6_65 staX6_at okX6_at (by decide) rfl (Nat.le_of_ble_eq_true rfl) (by decide) (by decide) (Fn_X6_at (k + 3) (arS I 156 (fset (fset (fset (fset (cfS (I 156) n m nc one other) (12 + name) (cfV (I 156) n m nc one other)) (28 + 5 * (cfV (I 156) n m nc one other) + 0) 1) (28 + 5 * (cfV (I 156) n m nc one other) + 1) 0) (28 + 5 * (cfV (I 156) n m nc one other) + 2) 0)) P (cfV (I 156) n m nc one other) 3 (by omega) (by omega) (by omega) (by omega)) ?_
    refine r_iconst (d := mX6_gets) (pc := 73) (n := (-1)) dX6_gets_73 ?_
    refine r_iasts (d := mX6_gets) (pc := 74) (a := 156) (lay0, arS I 156 (fset (fset (fset (fset (fset (cfS (I 156) n m nc one other) (12 + name) (cfV (I 156) n m nc one other)) (28 + 5 * (cfV (I 156) n m nc one other) + 0) 1) (28 + 5 * (cfV (I 156) n m nc one other) + 1) 0) (28 + 5 * (cfV (I 156) n m nc one other) + 2) 0) (28 + 5 * (cfV (I 156) n m nc one other) + 3) (-1)), P) dX6_gets_74 ly156 (by omega) (by omega) (memE (arS_up _ _ _ _ _)) ?_
    refine r_aload_n (d := mX6_gets) (pc := 75) (i := 0) (v := 155) dX6_gets_75 rfl rfl ?_
    refine r_getRs (d := mX6_gets) (pc := 76) (a := 155) (kd := 6) (j := 0) (x := 156) dX6_gets_76 flRX6_7 ly155 (by decide) (by decide) rfl hM.1 ?_
    refine r_iload (d := mX6_gets) (pc := 79) (i := 4) (v := cfV (I 156) n m nc one other) dX6_gets_79 rfl ?_
    refine r_iconst (d := mX6_gets) (pc := 81) (n := 4) dX6_gets_81 ?_
    refine r_cS2 (d := mX6_gets) (pc := 82) (dj := mX6_at) dX6_gets_82 mlRX6_65 staX6_at okX6_at (by decide) rfl (Nat.le_of_ble_eq_true rfl) (by decide) (by decide) (Fn_X6_at (k + 3) (arS I 156 (fset (fset (fset (fset (fset (cfS (I 156) n m nc one other) (12 + name) (cfV (I 156) n m nc one other)) (28 + 5 * (cfV (I 156) n m nc one other) + 0) 1) (28 + 5 * (cfV (I 156) n m nc one other) + 1) 0) (28 + 5 * (cfV (I 156) n m nc one other) + 2) 0) (28 + 5 * (cfV (I 156) n m nc one other) + 3) (-1))) P (cfV (I 156) n m nc one other) 4 (by omega) (by omega) (by omega) (by omega)) ?_
    refine r_aload_n (d := mX6_gets) (pc := 85) (i := 0) (v := 155) dX6_gets_85 rfl rfl ?_
    refine r_getRs (d := mX6_gets) (pc := 86) (a := 155) (kd := 6) (j := 0) (x := 156) dX6_gets_86 flRX6_7 ly155 (by decide) (by decide) rfl hM.1 ?_
    refine r_bipush (d := mX6_gets) (pc := 89) (n := 7) dX6_gets_89 ?_
    refine r_ialds (d := mX6_gets) (pc := 91) (a := 156) (x := ((I 156) 7)) dX6_gets_91 ly156 (by decide) (by decide) (by show (fset (fset (fset (fset (fset (cfS (I 156) n m nc one other) (12 + name) (cfV (I 156) n m nc one other)) (28 + 5 * (cfV (I 156) n m nc one other) + 0) 1) (28 + 5 * (cfV (I 156) n m nc one other) + 1) 0) (28 + 5 * (cfV (I 156) n m nc one other) + 2) 0) (28 + 5 * (cfV (I 156) n m nc one other) + 3) (-1)) 7 = _; rw [fset_ne _ _ (by omega), fset_ne _ _ (by omega), fset_ne _ _ (by omega), fset_ne _ _ (by omega), fset_ne _ _ (by omega), cfS_ne _ _ _ _ _ _ (by omega) (by omega)]) ?_
    refine r_iasts (d := mX6_gets) (pc := 92) (a := 156) (lay0, arS I 156 (fset (fset (fset (fset (fset (fset (cfS (I 156) n m nc one other) (12 + name) (cfV (I 156) n m nc one other)) (28 + 5 * (cfV (I 156) n m nc one other) + 0) 1) (28 + 5 * (cfV (I 156) n m nc one other) + 1) 0) (28 + 5 * (cfV (I 156) n m nc one other) + 2) 0) (28 + 5 * (cfV (I 156) n m nc one other) + 3) (-1)) (28 + 5 * (cfV (I 156) n m nc one other) + 4) ((I 156) 7)), P) dX6_gets_92 ly156 (by omega) (by omega) (memE (arS_up _ _ _ _ _)) ?_
    refine r_iload (d := mX6_gets) (pc := 93) (i := 4) (v := cfV (I 156) n m nc one other) dX6_gets_93 rfl ?_
    exact r_iret (d := mX6_gets) (pc := 95) dX6_gets_95 rfl (rtI (by rfl) (by refine memE ?_; rw [getS, if_neg (by omega), gtS, cfS_ne _ _ _ _ _ _ (by omega) (by omega)])) (by decide) (by decide)
  · refine r_bipush (d := mX6_gets) (pc := 13) (n := (-4)) dX6_gets_13 ?_
    exact r_iret (d := mX6_gets) (pc := 15) dX6_gets_15 rfl (rtI (by omega) (by refine memE ?_; rw [getS, if_pos (by omega)])) (by decide) (by decide)
set_option maxRecDepth 20000 in
set_option maxHeartbeats 4000000 in
theorem Fn_X6_isKnown (k : Nat) (I : mIt) (P : mPt) (hM : isMd P) (c v : Int) (hc0 : 0 ≤ c) (hc7 : c < 7) : WP (k + 1) mX6_isKnown none (0, 0) (Rt none (lay0, arS I 156 (ikS (I 156) c v), P)) 0 [(0, .inr (some 155)), (1, .inl c), (2, .inl v)] [] (lay0, I, P) := by
  refine r_aload_n (d := mX6_isKnown) (pc := 0) (i := 0) (v := 155) dX6_isKnown_0 rfl rfl ?_
  refine r_getRs (d := mX6_isKnown) (pc := 1) (a := 155) (kd := 6) (j := 0) (x := 156) dX6_isKnown_1 flRX6_7 ly155 (by decide) (by decide) rfl hM.1 ?_
  refine r_iload_n (d := mX6_isKnown) (pc := 4) (i := 1) (v := c) dX6_isKnown_4 rfl rfl ?_
  refine r_iconst (d := mX6_isKnown) (pc := 5) (n := 1) dX6_isKnown_5 ?_
  refine r_cS2 (d := mX6_isKnown) (pc := 6) (dj := mX6_at) dX6_isKnown_6 mlRX6_65 staX6_at okX6_at (by decide) rfl (Nat.le_of_ble_eq_true rfl) (by decide) (by decide) (Fn_X6_at k I P c 1 (by omega) (by omega) (by omega) (by omega)) ?_
  refine r_iload_n (d := mX6_isKnown) (pc := 9) (i := 2) (v := v) dX6_isKnown_9 rfl rfl ?_
  refine r_iasts (d := mX6_isKnown) (pc := 10) (a := 156) (lay0, arS I 156 (fset (I 156) (28 + 5 * c + 1) v), P) dX6_isKnown_10 ly156 (by omega) (by omega) rfl ?_
  refine r_aload_n (d := mX6_isKnown) (pc := 11) (i := 0) (v := 155) dX6_isKnown_11 rfl rfl ?_
  refine r_getRs (d := mX6_isKnown) (pc := 12) (a := 155) (kd := 6) (j := 0) (x := 156) dX6_isKnown_12 flRX6_7 ly155 (by decide) (by decide) rfl hM.1 ?_
  refine r_iload_n (d := mX6_isKnown) (pc := 15) (i := 1) (v := c) dX6_isKnown_15 rfl rfl ?_
  refine r_iconst (d := mX6_isKnown) (pc := 16) (n := 2) dX6_isKnown_16 ?_
  refine r_cS2 (d := mX6_isKnown) (pc := 17) (dj := mX6_at) dX6_isKnown_17 mlRX6_65 staX6_at okX6_at (by decide) rfl (Nat.le_of_ble_eq_true rfl) (by decide) (by decide) (Fn_X6_at k (arS I 156 (fset (I 156) (28 + 5 * c + 1) v)) P c 2 (by omega) (by omega) (by omega) (by omega)) ?_
  refine r_iconst (d := mX6_isKnown) (pc := 20) (n := 1) dX6_isKnown_20 ?_
  refine r_iasts (d := mX6_isKnown) (pc := 21) (a := 156) (lay0, arS I 156 (fset (fset (I 156) (28 + 5 * c + 1) v) (28 + 5 * c + 2) 1), P) dX6_isKnown_21 ly156 (by omega) (by omega) (memE (arS_up _ _ _ _ _)) ?_
  refine r_aload_n (d := mX6_isKnown) (pc := 22) (i := 0) (v := 155) dX6_isKnown_22 rfl rfl ?_
  refine r_getRs (d := mX6_isKnown) (pc := 23) (a := 155) (kd := 6) (j := 0) (x := 156) dX6_isKnown_23 flRX6_7 ly155 (by decide) (by decide) rfl hM.1 ?_
  refine r_iload_n (d := mX6_isKnown) (pc := 26) (i := 1) (v := c) dX6_isKnown_26 rfl rfl ?_
  refine r_iconst (d := mX6_isKnown) (pc := 27) (n := 3) dX6_isKnown_27 ?_
  refine r_cS2 (d := mX6_isKnown) (pc := 28) (dj := mX6_at) dX6_isKnown_28 mlRX6_65 staX6_at okX6_at (by decide) rfl (Nat.le_of_ble_eq_true rfl) (by decide) (by decide) (Fn_X6_at k (arS I 156 (fset (fset (I 156) (28 + 5 * c + 1) v) (28 + 5 * c + 2) 1)) P c 3 (by omega) (by omega) (by omega) (by omega)) ?_
  refine r_iconst (d := mX6_isKnown) (pc := 31) (n := (-1)) dX6_isKnown_31 ?_
  refine r_iasts (d := mX6_isKnown) (pc := 32) (a := 156) (lay0, arS I 156 (fset (fset (fset (I 156) (28 + 5 * c + 1) v) (28 + 5 * c + 2) 1) (28 + 5 * c + 3) (-1)), P) dX6_isKnown_32 ly156 (by omega) (by omega) (memE (arS_up _ _ _ _ _)) ?_
  exact r_ret (d := mX6_isKnown) (pc := 33) dX6_isKnown_33 rfl (rtV (by rfl)) (by decide) (by decide)
