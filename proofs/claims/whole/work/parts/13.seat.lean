/-! ===== Room: a seat for a name, and what it changes ===== -/
theorem cpy2_t (I : mIt) {a b : Nat} (h : a ≠ b) (n : Nat) (f g : Int → Int) {x y : Int} (hf : x = f n) (hg : y = g n) : mUp (mUp (cpy (cpy I a n f) b n g) a (n : Int) x) b (n : Int) y = cpy (cpy I a (n + 1) f) b (n + 1) g := by
  subst hf; subst hg
  exact cpy2_s I h n f g
theorem cpy2_skip (I : mIt) {a b : Nat} (h : a ≠ b) (n : Nat) (f g : Int → Int) (hf : I a n = f n) (hg : I b n = g n) : cpy (cpy I a n f) b n g = cpy (cpy I a (n + 1) f) b (n + 1) g := by
  rw [cpy_skip (I := I) hf, cpy_skip]
  rw [cpy_ne _ _ _ (Ne.symm h)]
  exact hg
def sendF (I : mIt) (b : Nat) (ch : Int) : Int → Int := fun n => if I (b + 3) n = ch then -1 else I (b + 3) n
def sendG (I : mIt) (b : Nat) (ch v : Int) : Int → Int := fun n => if I (b + 3) n = ch then v else I (b + 4) n
def sendI (I : mIt) (b : Nat) (ch v : Int) : mIt := cpy (cpy (mUp I b 3 (I b 3 + 1)) (b + 3) 8 (sendF I b ch)) (b + 4) 8 (sendG I b ch v)
def tkn (I : mIt) (b n mc : Nat) : Int := bOr (pinA I b n mc) (cset (I (b + 3)) 8)
def cand (I : mIt) (b n mc : Nat) (one other : Int) : Int := bAnd (bAnd (cset (I (b + 3)) 8) (bXor (pinA I b n mc) (-1))) (bXor (bOr (csetOf (I (b + 3)) one) (csetOf (I (b + 3)) other)) (-1))
def seC0 (I : mIt) (b n mc nc : Nat) : Int := lowR (freeB (tkn I b n mc)) nc 0
def seC1 (I : mIt) (b n mc nc : Nat) (one other : Int) : Int := luF (cand I b n mc one other) (I b 1) (I (b + 7)) (I (b + 8)) nc
def seatV (I : mIt) (b n mc nc : Nat) (one other : Int) : Int := if seC0 I b n mc nc = -1 then (if seC1 I b n mc nc one other = -1 then -2 else seC1 I b n mc nc one other) else seC0 I b n mc nc
def seatP (I : mIt) (b n mc nc : Nat) (one other : Int) : mIt := if seC0 I b n mc nc = -1 ∧ seC1 I b n mc nc one other ≠ -1 then sendI I b (seC1 I b n mc nc one other) (vOn (I (b + 6)) (seC1 I b n mc nc one other)) else I
def seatI (I : mIt) (b n mc nc : Nat) (name value kn one other : Int) : mIt := if seatV I b n mc nc one other = -2 then I else mUp (vPlace (seatP I b n mc nc one other) (b + 6) (b + 7) (b + 8) (seatV I b n mc nc one other) value kn (I b 5)) (b + 3) name (seatV I b n mc nc one other)
theorem seC0_rng (I : mIt) (b n mc nc : Nat) : seC0 I b n mc nc = -1 ∨ (0 ≤ seC0 I b n mc nc ∧ seC0 I b n mc nc < nc) := by
  have h0 := lowR_rng (freeB (tkn I b n mc)) nc 0
  unfold seC0
  omega
theorem seC1_rng (I : mIt) (b n mc nc : Nat) (one other : Int) : seC1 I b n mc nc one other = -1 ∨ (0 ≤ seC1 I b n mc nc one other ∧ seC1 I b n mc nc one other < nc) := luF_rng (cand I b n mc one other) (I b 1) (I (b + 7)) (I (b + 8)) nc
theorem seatV_rng (I : mIt) (b n mc nc : Nat) (one other : Int) : seatV I b n mc nc one other = -2 ∨ (0 ≤ seatV I b n mc nc one other ∧ seatV I b n mc nc one other < nc) := by
  have h0 := lowR_rng (freeB (tkn I b n mc)) nc 0
  have h1 := luF_rng (cand I b n mc one other) (I b 1) (I (b + 7)) (I (b + 8)) nc
  unfold seatV seC0 seC1
  split <;> (try split) <;> omega
theorem vPlace_ne (I : mIt) {v kn us x : Nat} (ch nv nk use : Int) (h1 : x ≠ v) (h2 : x ≠ kn) (h3 : x ≠ us) : vPlace I v kn us ch nv nk use x = I x := by
  unfold vPlace
  split
  · rw [mUp_ne _ _ _ h3, mUp_ne _ _ _ h2, mUp_ne _ _ _ h1]
  · rfl
theorem vUse_ne (I : mIt) {us x : Nat} (ch use : Int) (h : x ≠ us) : vUse I us ch use x = I x := by
  unfold vUse
  split
  · rw [mUp_ne _ _ _ h]
  · rfl
theorem sendI_ne (I : mIt) {b x : Nat} (ch v : Int) (h0 : x ≠ b) (h1 : x ≠ b + 3) (h2 : x ≠ b + 4) : sendI I b ch v x = I x := by
  unfold sendI
  rw [cpy_ne _ _ _ h2, cpy_ne _ _ _ h1, mUp_ne _ _ _ h0]
theorem sendI_b (I : mIt) (b : Nat) (ch v : Int) {k : Int} (h : k ≠ 3) : sendI I b ch v b k = I b k := by
  unfold sendI
  rw [cpy_ne _ _ _ (by omega), cpy_ne _ _ _ (by omega), mUp_at, fset_ne _ _ h]
theorem seatP_ne (I : mIt) {b x : Nat} (n mc nc : Nat) (one other : Int) (h0 : x ≠ b) (h1 : x ≠ b + 3) (h2 : x ≠ b + 4) : seatP I b n mc nc one other x = I x := by
  unfold seatP
  split
  · exact sendI_ne _ _ _ h0 h1 h2
  · rfl
theorem seatP_b (I : mIt) (b n mc nc : Nat) (one other : Int) {k : Int} (h : k ≠ 3) : seatP I b n mc nc one other b k = I b k := by
  unfold seatP
  split
  · exact sendI_b _ _ _ _ h
  · rfl
theorem seatI_ne (I : mIt) {b x : Nat} (n mc nc : Nat) (name value kn one other : Int) (h0 : x ≠ b) (h1 : x ≠ b + 3) (h2 : x ≠ b + 4) (h3 : x ≠ b + 6) (h4 : x ≠ b + 7) (h5 : x ≠ b + 8) : seatI I b n mc nc name value kn one other x = I x := by
  unfold seatI
  split
  · rfl
  · rw [mUp_ne _ _ _ h1, vPlace_ne _ _ _ _ _ h3 h4 h5, seatP_ne _ _ _ _ _ _ h0 h1 h2]
theorem seatI_b (I : mIt) (b n mc nc : Nat) (name value kn one other : Int) {k : Int} (h : k ≠ 3) : seatI I b n mc nc name value kn one other b k = I b k := by
  unfold seatI
  split
  · rfl
  · rw [mUp_ne _ _ _ (by omega), vPlace_ne _ _ _ _ _ (by omega) (by omega) (by omega), seatP_b _ _ _ _ _ _ _ h]
set_option maxRecDepth 20000 in
set_option maxHeartbeats 4000000 in
theorem Fn_X2_sendOut (k : Nat) (I : mIt) (P : mPt) (b : Nat) (hR : isRm P b) (hs : mI (I b 3 + 1)) (ch v : Int) : WP (k + 0) mX2_sendOut none (0, 0) (Rt none (lay0, sendI I b ch v, P)) 0 [(0, .inr (some b)), (1, .inl ch), (2, .inl v)] [] (lay0, I, P) := by
  refine r_aload_n (d := mX2_sendOut) (pc := 0) (i := 0) (v := b) dX2_sendOut_0 rfl rfl ?_
  refine r_dup (d := mX2_sendOut) (pc := 1) dX2_sendOut_1 ?_
  refine r_getIs (d := mX2_sendOut) (pc := 2) (a := b) (kd := 2) (j := 3) (x := (I b 3)) dX2_sendOut_2 flRX2_21 hR.1.1 (by decide) (by decide) rfl (rfl) ?_
  refine r_iconst (d := mX2_sendOut) (pc := 5) (n := 1) dX2_sendOut_5 ?_
  refine r_iadd (d := mX2_sendOut) (pc := 6) dX2_sendOut_6 ?_ (hs)
  refine r_putIs (d := mX2_sendOut) (pc := 7) (a := b) (kd := 2) (j := 3) (lay0, mUp I b 3 ((I b 3) + 1), P) dX2_sendOut_7 flRX2_21 hR.1.1 (by decide) (by decide) rfl rfl (Or.inl rfl) rfl ?_
  refine r_iconst (d := mX2_sendOut) (pc := 10) (n := 0) dX2_sendOut_10 ?_
  refine r_istore_n (d := mX2_sendOut) (pc := 11) (i := 3) (lv' := [(0, .inr (some b)), (1, .inl ch), (2, .inl v), (3, .inl 0)]) dX2_sendOut_11 rfl (by decide) rfl rfl ?_
  have L12 : ∀ j : Nat, j ≤ 8 → WP (k + 0) mX2_sendOut none (0, 0) (Rt none (lay0, sendI I b ch v, P)) 12 [(0, .inr (some b)), (1, .inl ch), (2, .inl v), (3, .inl (j : Int))] [] (lay0, cpy (cpy (mUp I b 3 ((I b 3) + 1)) (b + 3) j (sendF I b ch)) (b + 4) j (sendG I b ch v), P) := by
    refine loopN (8) _ (fun j ih12 hj12 => ?_)
    refine r_iload_n (d := mX2_sendOut) (pc := 12) (i := 3) (v := (j : Int)) dX2_sendOut_12 rfl rfl ?_
    refine r_bipush (d := mX2_sendOut) (pc := 13) (n := 8) dX2_sendOut_13 ?_
    refine r_icmp_ge (d := mX2_sendOut) (pc := 15) (tgt := 57) dX2_sendOut_15 (by decide) (fun h15 => ?_) (fun h15 => ?_)
    · exact r_ret (d := mX2_sendOut) (pc := 57) dX2_sendOut_57 rfl (rtV (by rw [show j = 8 by omega]; rfl)) (by decide) (by decide)
    · refine r_aload_n (d := mX2_sendOut) (pc := 18) (i := 0) (v := b) dX2_sendOut_18 rfl rfl ?_
      refine r_getRs (d := mX2_sendOut) (pc := 19) (a := b) (kd := 2) (j := 8) (x := b + 2) dX2_sendOut_19 flRX2_40 hR.1.1 (by decide) (by decide) rfl hR.2.1.2.1 ?_
      refine r_getRs (d := mX2_sendOut) (pc := 22) (a := b + 2) (kd := 0) (j := 0) (x := b + 3) dX2_sendOut_22 flRX2_111 hR.2.2.1.1 (by decide) (by decide) rfl hR.2.2.1.2.2.2.1 ?_
      refine r_iload_n (d := mX2_sendOut) (pc := 25) (i := 3) (v := (j : Int)) dX2_sendOut_25 rfl rfl ?_
      refine r_ialds (d := mX2_sendOut) (pc := 26) (a := b + 3) (x := (I (b + 3) (j : Int))) dX2_sendOut_26 hR.2.2.1.2.1 (by omega) (by omega) (by simp [mUp, cpy, fset]) ?_
      refine r_iload_n (d := mX2_sendOut) (pc := 27) (i := 1) (v := ch) dX2_sendOut_27 rfl rfl ?_
      refine r_icmp_ne (d := mX2_sendOut) (pc := 28) (tgt := 51) dX2_sendOut_28 (by decide) (fun h28 => ?_) (fun h28 => ?_)
      · refine r_iinc (d := mX2_sendOut) (pc := 51) (i := 3) (v := (j : Int)) (y := ((j + 1 : Nat) : Int)) (lv' := [(0, .inr (some b)), (1, .inl ch), (2, .inl v), (3, .inl ((j + 1 : Nat) : Int))]) dX2_sendOut_51 rfl (by decide) rfl (by omega) rfl ?_
        refine r_goto (d := mX2_sendOut) (pc := 54) (tgt := 12) dX2_sendOut_54 (by decide) ?_
        exact wpE (by simp) rfl (by first | exact memE (cpy2_t _ (by omega) j _ _ (by simp [sendF, h28]) (by simp [sendG, h28])) | exact memE (cpy2_skip _ (by omega) j _ _ (by simp [sendF, h28, mUp]) (by simp [sendG, h28, mUp]))) (ih12 (by omega) (by omega))
      · refine r_aload_n (d := mX2_sendOut) (pc := 31) (i := 0) (v := b) dX2_sendOut_31 rfl rfl ?_
        refine r_getRs (d := mX2_sendOut) (pc := 32) (a := b) (kd := 2) (j := 8) (x := b + 2) dX2_sendOut_32 flRX2_40 hR.1.1 (by decide) (by decide) rfl hR.2.1.2.1 ?_
        refine r_getRs (d := mX2_sendOut) (pc := 35) (a := b + 2) (kd := 0) (j := 0) (x := b + 3) dX2_sendOut_35 flRX2_111 hR.2.2.1.1 (by decide) (by decide) rfl hR.2.2.1.2.2.2.1 ?_
        refine r_iload_n (d := mX2_sendOut) (pc := 38) (i := 3) (v := (j : Int)) dX2_sendOut_38 rfl rfl ?_
        refine r_iconst (d := mX2_sendOut) (pc := 39) (n := (-1)) dX2_sendOut_39 ?_
        refine r_iasts (d := mX2_sendOut) (pc := 40) (a := b + 3) (lay0, mUp (cpy (cpy (mUp I b 3 ((I b 3) + 1)) (b + 3) j (sendF I b ch)) (b + 4) j (sendG I b ch v)) (b + 3) (j : Int) (-1), P) dX2_sendOut_40 hR.2.2.1.2.1 (by omega) (by omega) rfl ?_
        refine r_aload_n (d := mX2_sendOut) (pc := 41) (i := 0) (v := b) dX2_sendOut_41 rfl rfl ?_
        refine r_getRs (d := mX2_sendOut) (pc := 42) (a := b) (kd := 2) (j := 8) (x := b + 2) dX2_sendOut_42 flRX2_40 hR.1.1 (by decide) (by decide) rfl hR.2.1.2.1 ?_
        refine r_getRs (d := mX2_sendOut) (pc := 45) (a := b + 2) (kd := 0) (j := 1) (x := b + 4) dX2_sendOut_45 flRX2_150 hR.2.2.1.1 (by decide) (by decide) rfl hR.2.2.1.2.2.2.2 ?_
        refine r_iload_n (d := mX2_sendOut) (pc := 48) (i := 3) (v := (j : Int)) dX2_sendOut_48 rfl rfl ?_
        refine r_iload_n (d := mX2_sendOut) (pc := 49) (i := 2) (v := v) dX2_sendOut_49 rfl rfl ?_
        refine r_iasts (d := mX2_sendOut) (pc := 50) (a := b + 4) (lay0, mUp (mUp (cpy (cpy (mUp I b 3 ((I b 3) + 1)) (b + 3) j (sendF I b ch)) (b + 4) j (sendG I b ch v)) (b + 3) (j : Int) (-1)) (b + 4) (j : Int) v, P) dX2_sendOut_50 hR.2.2.1.2.2.1 (by omega) (by omega) rfl ?_
        refine r_iinc (d := mX2_sendOut) (pc := 51) (i := 3) (v := (j : Int)) (y := ((j + 1 : Nat) : Int)) (lv' := [(0, .inr (some b)), (1, .inl ch), (2, .inl v), (3, .inl ((j + 1 : Nat) : Int))]) dX2_sendOut_51 rfl (by decide) rfl (by omega) rfl ?_
        refine r_goto (d := mX2_sendOut) (pc := 54) (tgt := 12) dX2_sendOut_54 (by decide) ?_
        exact wpE (by simp) rfl (by first | exact memE (cpy2_t _ (by omega) j _ _ (by simp [sendF, h28]) (by simp [sendG, h28])) | exact memE (cpy2_skip _ (by omega) j _ _ (by simp [sendF, h28, mUp]) (by simp [sendG, h28, mUp]))) (ih12 (by omega) (by omega))
  exact wpE (by simp) rfl (by rw [cpy_0, cpy_0]) (L12 0 (by omega))
set_option maxRecDepth 20000 in
set_option maxHeartbeats 4000000 in
theorem Fn_X2_seat (k : Nat) (I : mIt) (P : mPt) (b : Nat) (hR : isRm P b) (n : Nat) (hn : I (b + 9) 0 = n) (hn6 : n ≤ 6) (mc : Nat) (hm : I b 6 = mc) (hm3 : mc ≤ 3) (nc : Nat) (hc : I b 0 = nc) (hc7 : nc ≤ 7) (hs : mI (I b 3 + 1)) (name value kn one other : Int) (hm0 : 0 ≤ name) (hm8 : name < 8) : WP (k + 1) mX2_seat none (0, 0) (Rt (some (.inl (seatV I b n mc nc one other))) (lay0, seatI I b n mc nc name value kn one other, P)) 0 [(0, .inr (some b)), (1, .inl name), (2, .inl value), (3, .inl kn), (4, .inl one), (5, .inl other)] [] (lay0, I, P) := by
  refine r_aload_n (d := mX2_seat) (pc := 0) (i := 0) (v := b) dX2_seat_0 rfl rfl ?_
  refine r_cV0 (d := mX2_seat) (pc := 1) (dj := mX2_pinnedChairs) (a := b) (kd := 2) dX2_seat_1 mlRX2_153 inX2_pinnedChairs selX2_pinnedChairs rfl hR.1.1 (by decide) okX2_pinnedChairs (by decide) rfl (Nat.le_of_ble_eq_true rfl) (by decide) (by decide) (Fn_X2_pinnedChairs k I P b hR n (hn) hn6 mc (hm) hm3) ?_
  refine r_istore (d := mX2_seat) (pc := 4) (i := 6) (lv' := [(0, .inr (some b)), (1, .inl name), (2, .inl value), (3, .inl kn), (4, .inl one), (5, .inl other), (6, .inl (pinA I b n mc))]) dX2_seat_4 (by decide) rfl rfl ?_
  refine r_aload_n (d := mX2_seat) (pc := 6) (i := 0) (v := b) dX2_seat_6 rfl rfl ?_
  refine r_getRs (d := mX2_seat) (pc := 7) (a := b) (kd := 2) (j := 8) (x := b + 2) dX2_seat_7 flRX2_40 hR.1.1 (by decide) (by decide) rfl hR.2.1.2.1 ?_
  refine r_cV0 (d := mX2_seat) (pc := 10) (dj := mX0_chairSet) (a := b + 2) (kd := 0) dX2_seat_10 mlRX2_156 inX0_chairSet selX0_chairSet rfl hR.2.2.1.1 (by decide) okX0_chairSet (by decide) rfl (Nat.le_of_ble_eq_true rfl) (by decide) (by decide) (Fn_X0_chairSet k I P (b + 2) (b + 3) (b + 4) hR.2.2.1  ) ?_
  refine r_istore (d := mX2_seat) (pc := 13) (i := 7) (lv' := [(0, .inr (some b)), (1, .inl name), (2, .inl value), (3, .inl kn), (4, .inl one), (5, .inl other), (6, .inl (pinA I b n mc)), (7, .inl (cset (I (b + 3)) 8))]) dX2_seat_13 (by decide) rfl rfl ?_
  refine r_aload_n (d := mX2_seat) (pc := 15) (i := 0) (v := b) dX2_seat_15 rfl rfl ?_
  refine r_iload (d := mX2_seat) (pc := 16) (i := 6) (v := pinA I b n mc) dX2_seat_16 rfl ?_
  refine r_iload (d := mX2_seat) (pc := 18) (i := 7) (v := cset (I (b + 3)) 8) dX2_seat_18 rfl ?_
  refine r_ior (d := mX2_seat) (pc := 20) dX2_seat_20 ?_
  refine r_cV1 (d := mX2_seat) (pc := 21) (dj := mX2_lowestFreeChair) (a := b) (kd := 2) dX2_seat_21 mlRX2_159 inX2_lowestFreeChair selX2_lowestFreeChair rfl hR.1.1 (by decide) okX2_lowestFreeChair (by decide) rfl (Nat.le_of_ble_eq_true rfl) (by decide) (by decide) (Fn_X2_lowestFreeChair k I P b hR nc (hc) hc7 (bOr (pinA I b n mc) (cset (I (b + 3)) 8))) ?_
  change WP _ _ _ _ _ _ _ [.inl (seC0 I b n mc nc)] _
  refine r_istore (d := mX2_seat) (pc := 24) (i := 8) (lv' := [(0, .inr (some b)), (1, .inl name), (2, .inl value), (3, .inl kn), (4, .inl one), (5, .inl other), (6, .inl (pinA I b n mc)), (7, .inl (cset (I (b + 3)) 8)), (8, .inl (seC0 I b n mc nc))]) dX2_seat_24 (by decide) rfl rfl ?_
  refine r_iload (d := mX2_seat) (pc := 26) (i := 8) (v := seC0 I b n mc nc) dX2_seat_26 rfl ?_
  refine r_iconst (d := mX2_seat) (pc := 28) (n := (-1)) dX2_seat_28 ?_
  refine r_icmp_ne (d := mX2_seat) (pc := 29) (tgt := 95) dX2_seat_29 (by decide) (fun h29 => ?_) (fun h29 => ?_)
  · refine r_aload_n (d := mX2_seat) (pc := 95) (i := 0) (v := b) dX2_seat_95 rfl rfl ?_
    refine r_getRs (d := mX2_seat) (pc := 96) (a := b) (kd := 2) (j := 9) (x := b + 5) dX2_seat_96 flRX2_47 hR.1.1 (by decide) (by decide) rfl hR.2.1.2.2.1 ?_
    refine r_iload (d := mX2_seat) (pc := 99) (i := 8) (v := seC0 I b n mc nc) dX2_seat_99 rfl ?_
    refine r_iload_n (d := mX2_seat) (pc := 101) (i := 2) (v := value) dX2_seat_101 rfl rfl ?_
    refine r_iload_n (d := mX2_seat) (pc := 102) (i := 3) (v := kn) dX2_seat_102 rfl rfl ?_
    refine r_aload_n (d := mX2_seat) (pc := 103) (i := 0) (v := b) dX2_seat_103 rfl rfl ?_
    refine r_getIs (d := mX2_seat) (pc := 104) (a := b) (kd := 2) (j := 5) (x := (I b 5)) dX2_seat_104 flRX2_27 hR.1.1 (by decide) (by decide) rfl (rfl) ?_
    refine r_cV4 (d := mX2_seat) (pc := 107) (dj := mX4_place) (a := b + 5) (kd := 4) dX2_seat_107 mlRX2_171 inX4_place selX4_place rfl hR.2.2.2.1.1 (by decide) okX4_place (by decide) rfl (Nat.le_of_ble_eq_true rfl) (by decide) (by decide) (Fn_X4_place k I P (b + 5) (b + 6) (b + 7) (b + 8) hR.2.2.2.1  (seC0 I b n mc nc) value kn (I b 5)) ?_
    refine r_aload_n (d := mX2_seat) (pc := 110) (i := 0) (v := b) dX2_seat_110 rfl rfl ?_
    refine r_getRs (d := mX2_seat) (pc := 111) (a := b) (kd := 2) (j := 8) (x := b + 2) dX2_seat_111 flRX2_40 hR.1.1 (by decide) (by decide) rfl hR.2.1.2.1 ?_
    refine r_getRs (d := mX2_seat) (pc := 114) (a := b + 2) (kd := 0) (j := 0) (x := b + 3) dX2_seat_114 flRX2_111 hR.2.2.1.1 (by decide) (by decide) rfl hR.2.2.1.2.2.2.1 ?_
    refine r_iload_n (d := mX2_seat) (pc := 117) (i := 1) (v := name) dX2_seat_117 rfl rfl ?_
    refine r_iload (d := mX2_seat) (pc := 118) (i := 8) (v := seC0 I b n mc nc) dX2_seat_118 rfl ?_
    refine r_iasts (d := mX2_seat) (pc := 120) (a := b + 3) (lay0, mUp (vPlace I (b + 6) (b + 7) (b + 8) (seC0 I b n mc nc) value kn (I b 5)) (b + 3) name (seC0 I b n mc nc), P) dX2_seat_120 hR.2.2.1.2.1 (by omega) (by omega) rfl ?_
    refine r_iload (d := mX2_seat) (pc := 121) (i := 8) (v := seC0 I b n mc nc) dX2_seat_121 rfl ?_
    exact r_iret (d := mX2_seat) (pc := 123) dX2_seat_123 rfl (rtI (by first | rw [seatV, if_neg h29] | rw [seatV, if_pos h29, if_neg h74]) (by first | rw [seatI, if_pos (by rw [seatV, if_pos h29, if_pos h74])] | (have hv : seatV I b n mc nc one other = seC1 I b n mc nc one other := by rw [seatV, if_pos h29, if_neg h74]); (have hp : seatP I b n mc nc one other = sendI I b (seC1 I b n mc nc one other) (vOn (I (b + 6)) (seC1 I b n mc nc one other)) := by rw [seatP, if_pos ⟨h29, h74⟩]); rw [seatI, if_neg (by rw [hv]; omega), hv, hp]; done | (have hv : seatV I b n mc nc one other = seC0 I b n mc nc := by rw [seatV, if_neg h29]); (have hr0 := seC0_rng I b n mc nc); (have hp : seatP I b n mc nc one other = I := by rw [seatP, if_neg (fun q => h29 q.1)]); rw [seatI, if_neg (by rw [hv]; omega), hv, hp]; done)) (by decide) (by decide)
  · refine r_aload_n (d := mX2_seat) (pc := 32) (i := 0) (v := b) dX2_seat_32 rfl rfl ?_
    refine r_getRs (d := mX2_seat) (pc := 33) (a := b) (kd := 2) (j := 8) (x := b + 2) dX2_seat_33 flRX2_40 hR.1.1 (by decide) (by decide) rfl hR.2.1.2.1 ?_
    refine r_iload (d := mX2_seat) (pc := 36) (i := 4) (v := one) dX2_seat_36 rfl ?_
    refine r_cV1 (d := mX2_seat) (pc := 38) (dj := mX0_chairSetOf) (a := b + 2) (kd := 0) dX2_seat_38 mlRX2_162 inX0_chairSetOf selX0_chairSetOf rfl hR.2.2.1.1 (by decide) okX0_chairSetOf (by decide) rfl (Nat.le_of_ble_eq_true rfl) (by decide) (by decide) (Fn_X0_chairSetOf k I P (b + 2) (b + 3) (b + 4) hR.2.2.1  one) ?_
    refine r_aload_n (d := mX2_seat) (pc := 41) (i := 0) (v := b) dX2_seat_41 rfl rfl ?_
    refine r_getRs (d := mX2_seat) (pc := 42) (a := b) (kd := 2) (j := 8) (x := b + 2) dX2_seat_42 flRX2_40 hR.1.1 (by decide) (by decide) rfl hR.2.1.2.1 ?_
    refine r_iload (d := mX2_seat) (pc := 45) (i := 5) (v := other) dX2_seat_45 rfl ?_
    refine r_cV1 (d := mX2_seat) (pc := 47) (dj := mX0_chairSetOf) (a := b + 2) (kd := 0) dX2_seat_47 mlRX2_162 inX0_chairSetOf selX0_chairSetOf rfl hR.2.2.1.1 (by decide) okX0_chairSetOf (by decide) rfl (Nat.le_of_ble_eq_true rfl) (by decide) (by decide) (Fn_X0_chairSetOf k I P (b + 2) (b + 3) (b + 4) hR.2.2.1  other) ?_
    refine r_ior (d := mX2_seat) (pc := 50) dX2_seat_50 ?_
    refine r_istore (d := mX2_seat) (pc := 51) (i := 9) (lv' := [(0, .inr (some b)), (1, .inl name), (2, .inl value), (3, .inl kn), (4, .inl one), (5, .inl other), (6, .inl (pinA I b n mc)), (7, .inl (cset (I (b + 3)) 8)), (8, .inl (seC0 I b n mc nc)), (9, .inl (bOr (csetOf (I (b + 3)) one) (csetOf (I (b + 3)) other)))]) dX2_seat_51 (by decide) rfl rfl ?_
    refine r_aload_n (d := mX2_seat) (pc := 53) (i := 0) (v := b) dX2_seat_53 rfl rfl ?_
    refine r_iload (d := mX2_seat) (pc := 54) (i := 7) (v := cset (I (b + 3)) 8) dX2_seat_54 rfl ?_
    refine r_iload (d := mX2_seat) (pc := 56) (i := 6) (v := pinA I b n mc) dX2_seat_56 rfl ?_
    refine r_iconst (d := mX2_seat) (pc := 58) (n := (-1)) dX2_seat_58 ?_
    refine r_ixor (d := mX2_seat) (pc := 59) dX2_seat_59 ?_
    refine r_iand (d := mX2_seat) (pc := 60) dX2_seat_60 ?_
    refine r_iload (d := mX2_seat) (pc := 61) (i := 9) (v := bOr (csetOf (I (b + 3)) one) (csetOf (I (b + 3)) other)) dX2_seat_61 rfl ?_
    refine r_iconst (d := mX2_seat) (pc := 63) (n := (-1)) dX2_seat_63 ?_
    refine r_ixor (d := mX2_seat) (pc := 64) dX2_seat_64 ?_
    refine r_iand (d := mX2_seat) (pc := 65) dX2_seat_65 ?_
    refine r_cV1 (d := mX2_seat) (pc := 66) (dj := mX2_longestUnused) (a := b) (kd := 2) dX2_seat_66 mlRX2_165 inX2_longestUnused selX2_longestUnused rfl hR.1.1 (by decide) okX2_longestUnused (by decide) rfl (Nat.le_of_ble_eq_true rfl) (by decide) (by decide) (Fn_X2_longestUnused k I P b hR nc (hc) hc7 (bAnd (bAnd (cset (I (b + 3)) 8) (bXor (pinA I b n mc) (-1))) (bXor (bOr (csetOf (I (b + 3)) one) (csetOf (I (b + 3)) other)) (-1)))) ?_
    change WP _ _ _ _ _ _ _ [.inl (seC1 I b n mc nc one other)] _
    have hr1 := seC1_rng I b n mc nc one other
    refine r_istore (d := mX2_seat) (pc := 69) (i := 8) (lv' := [(0, .inr (some b)), (1, .inl name), (2, .inl value), (3, .inl kn), (4, .inl one), (5, .inl other), (6, .inl (pinA I b n mc)), (7, .inl (cset (I (b + 3)) 8)), (8, .inl (seC1 I b n mc nc one other)), (9, .inl (bOr (csetOf (I (b + 3)) one) (csetOf (I (b + 3)) other)))]) dX2_seat_69 (by decide) rfl rfl ?_
    refine r_iload (d := mX2_seat) (pc := 71) (i := 8) (v := seC1 I b n mc nc one other) dX2_seat_71 rfl ?_
    refine r_iconst (d := mX2_seat) (pc := 73) (n := (-1)) dX2_seat_73 ?_
    refine r_icmp_ne (d := mX2_seat) (pc := 74) (tgt := 80) dX2_seat_74 (by decide) (fun h74 => ?_) (fun h74 => ?_)
    · refine r_aload_n (d := mX2_seat) (pc := 80) (i := 0) (v := b) dX2_seat_80 rfl rfl ?_
      refine r_iload (d := mX2_seat) (pc := 81) (i := 8) (v := seC1 I b n mc nc one other) dX2_seat_81 rfl ?_
      refine r_aload_n (d := mX2_seat) (pc := 83) (i := 0) (v := b) dX2_seat_83 rfl rfl ?_
      refine r_getRs (d := mX2_seat) (pc := 84) (a := b) (kd := 2) (j := 9) (x := b + 5) dX2_seat_84 flRX2_47 hR.1.1 (by decide) (by decide) rfl hR.2.1.2.2.1 ?_
      refine r_iload (d := mX2_seat) (pc := 87) (i := 8) (v := seC1 I b n mc nc one other) dX2_seat_87 rfl ?_
      refine r_cV1 (d := mX2_seat) (pc := 89) (dj := mX4_valueOn) (a := b + 5) (kd := 4) dX2_seat_89 mlRX2_125 inX4_valueOn selX4_valueOn rfl hR.2.2.2.1.1 (by decide) okX4_valueOn (by decide) rfl (Nat.le_of_ble_eq_true rfl) (by decide) (by decide) (Fn_X4_valueOn k I P (b + 5) (b + 6) (b + 7) (b + 8) hR.2.2.2.1  (seC1 I b n mc nc one other)) ?_
      refine r_cV2 (d := mX2_seat) (pc := 92) (dj := mX2_sendOut) (a := b) (kd := 2) dX2_seat_92 mlRX2_168 inX2_sendOut selX2_sendOut rfl hR.1.1 (by decide) okX2_sendOut (by decide) rfl (Nat.le_of_ble_eq_true rfl) (by decide) (by decide) (Fn_X2_sendOut k I P b hR (hs) (seC1 I b n mc nc one other) (vOn (I (b + 6)) (seC1 I b n mc nc one other))) ?_
      refine r_aload_n (d := mX2_seat) (pc := 95) (i := 0) (v := b) dX2_seat_95 rfl rfl ?_
      refine r_getRs (d := mX2_seat) (pc := 96) (a := b) (kd := 2) (j := 9) (x := b + 5) dX2_seat_96 flRX2_47 hR.1.1 (by decide) (by decide) rfl hR.2.1.2.2.1 ?_
      refine r_iload (d := mX2_seat) (pc := 99) (i := 8) (v := seC1 I b n mc nc one other) dX2_seat_99 rfl ?_
      refine r_iload_n (d := mX2_seat) (pc := 101) (i := 2) (v := value) dX2_seat_101 rfl rfl ?_
      refine r_iload_n (d := mX2_seat) (pc := 102) (i := 3) (v := kn) dX2_seat_102 rfl rfl ?_
      refine r_aload_n (d := mX2_seat) (pc := 103) (i := 0) (v := b) dX2_seat_103 rfl rfl ?_
      refine r_getIs (d := mX2_seat) (pc := 104) (a := b) (kd := 2) (j := 5) (x := (I b 5)) dX2_seat_104 flRX2_27 hR.1.1 (by decide) (by decide) rfl (sendI_b I b _ _ (by decide)) ?_
      refine r_cV4 (d := mX2_seat) (pc := 107) (dj := mX4_place) (a := b + 5) (kd := 4) dX2_seat_107 mlRX2_171 inX4_place selX4_place rfl hR.2.2.2.1.1 (by decide) okX4_place (by decide) rfl (Nat.le_of_ble_eq_true rfl) (by decide) (by decide) (Fn_X4_place k (sendI I b (seC1 I b n mc nc one other) (vOn (I (b + 6)) (seC1 I b n mc nc one other))) P (b + 5) (b + 6) (b + 7) (b + 8) hR.2.2.2.1  (seC1 I b n mc nc one other) value kn (I b 5)) ?_
      refine r_aload_n (d := mX2_seat) (pc := 110) (i := 0) (v := b) dX2_seat_110 rfl rfl ?_
      refine r_getRs (d := mX2_seat) (pc := 111) (a := b) (kd := 2) (j := 8) (x := b + 2) dX2_seat_111 flRX2_40 hR.1.1 (by decide) (by decide) rfl hR.2.1.2.1 ?_
      refine r_getRs (d := mX2_seat) (pc := 114) (a := b + 2) (kd := 0) (j := 0) (x := b + 3) dX2_seat_114 flRX2_111 hR.2.2.1.1 (by decide) (by decide) rfl hR.2.2.1.2.2.2.1 ?_
      refine r_iload_n (d := mX2_seat) (pc := 117) (i := 1) (v := name) dX2_seat_117 rfl rfl ?_
      refine r_iload (d := mX2_seat) (pc := 118) (i := 8) (v := seC1 I b n mc nc one other) dX2_seat_118 rfl ?_
      refine r_iasts (d := mX2_seat) (pc := 120) (a := b + 3) (lay0, mUp (vPlace (sendI I b (seC1 I b n mc nc one other) (vOn (I (b + 6)) (seC1 I b n mc nc one other))) (b + 6) (b + 7) (b + 8) (seC1 I b n mc nc one other) value kn (I b 5)) (b + 3) name (seC1 I b n mc nc one other), P) dX2_seat_120 hR.2.2.1.2.1 (by omega) (by omega) rfl ?_
      refine r_iload (d := mX2_seat) (pc := 121) (i := 8) (v := seC1 I b n mc nc one other) dX2_seat_121 rfl ?_
      exact r_iret (d := mX2_seat) (pc := 123) dX2_seat_123 rfl (rtI (by first | rw [seatV, if_neg h29] | rw [seatV, if_pos h29, if_neg h74]) (by first | rw [seatI, if_pos (by rw [seatV, if_pos h29, if_pos h74])] | (have hv : seatV I b n mc nc one other = seC1 I b n mc nc one other := by rw [seatV, if_pos h29, if_neg h74]); (have hp : seatP I b n mc nc one other = sendI I b (seC1 I b n mc nc one other) (vOn (I (b + 6)) (seC1 I b n mc nc one other)) := by rw [seatP, if_pos ⟨h29, h74⟩]); rw [seatI, if_neg (by rw [hv]; omega), hv, hp]; done | (have hv : seatV I b n mc nc one other = seC0 I b n mc nc := by rw [seatV, if_neg h29]); (have hr0 := seC0_rng I b n mc nc); (have hp : seatP I b n mc nc one other = I := by rw [seatP, if_neg (fun q => h29 q.1)]); rw [seatI, if_neg (by rw [hv]; omega), hv, hp]; done)) (by decide) (by decide)
    · refine r_bipush (d := mX2_seat) (pc := 77) (n := (-2)) dX2_seat_77 ?_
      exact r_iret (d := mX2_seat) (pc := 79) dX2_seat_79 rfl (rtI (by rw [seatV, if_pos h29, if_pos h74]) (by first | rw [seatI, if_pos (by rw [seatV, if_pos h29, if_pos h74])] | (have hv : seatV I b n mc nc one other = seC1 I b n mc nc one other := by rw [seatV, if_pos h29, if_neg h74]); (have hp : seatP I b n mc nc one other = sendI I b (seC1 I b n mc nc one other) (vOn (I (b + 6)) (seC1 I b n mc nc one other)) := by rw [seatP, if_pos ⟨h29, h74⟩]); rw [seatI, if_neg (by rw [hv]; omega), hv, hp]; done | (have hv : seatV I b n mc nc one other = seC0 I b n mc nc := by rw [seatV, if_neg h29]); (have hr0 := seC0_rng I b n mc nc); (have hp : seatP I b n mc nc one other = I := by rw [seatP, if_neg (fun q => h29 q.1)]); rw [seatI, if_neg (by rw [hv]; omega), hv, hp]; done)) (by decide) (by decide)
