/-! ===== Room: orders are given ===== -/
def Vl (I : mIt) (b : Nat) : Prop := (∀ c : Int, 0 ≤ c → c < 7 → 0 ≤ I (b + 6) c ∧ I (b + 6) c ≤ 9999) ∧ (∀ n : Int, 0 ≤ n → n < 8 → 0 ≤ I (b + 4) n ∧ I (b + 4) n ≤ 9999)
theorem Vl_vOn {I : mIt} {b : Nat} (h : Vl I b) (c : Int) : 0 ≤ vOn (I (b + 6)) c ∧ vOn (I (b + 6)) c ≤ 9999 := by
  unfold vOn
  by_cases hc : 0 ≤ c ∧ c < 7
  · rw [if_pos hc]
    exact h.1 c hc.1 hc.2
  · rw [if_neg hc]
    omega
theorem Vl_up {I J : mIt} {b : Nat} (h : Vl I b) (h6 : J (b + 6) = I (b + 6)) (h4 : J (b + 4) = I (b + 4)) : Vl J b := by
  unfold Vl
  rw [h6, h4]
  exact h
theorem Vl_send {I : mIt} {b : Nat} (h : Vl I b) (ch : Int) {v : Int} (hv : 0 ≤ v ∧ v ≤ 9999) : Vl (sendI I b ch v) b := by
  refine ⟨?_, fun n h0 h1 => ?_⟩
  · have e : sendI I b ch v (b + 6) = I (b + 6) := sendI_ne _ _ _ (by omega) (by omega) (by omega)
    rw [e]
    exact h.1
  · have e : sendI I b ch v (b + 4) n = sendG I b ch v n := by
      unfold sendI
      exact cpy_in _ _ h0 h1
    rw [e]
    unfold sendG
    split
    · exact hv
    · exact h.2 n h0 h1
theorem Vl_place {I : mIt} {b : Nat} (h : Vl I b) (ch : Int) {v : Int} (nk use : Int) (hv : 0 ≤ v ∧ v ≤ 9999) : Vl (vPlace I (b + 6) (b + 7) (b + 8) ch v nk use) b := by
  refine ⟨fun c h0 h1 => ?_, ?_⟩
  · unfold vPlace
    split
    · rw [mUp_ne _ _ _ (by omega), mUp_ne _ _ _ (by omega), mUp_at]
      by_cases hc : c = ch
      · rw [hc, fset_at]; exact hv
      · rw [fset_ne _ _ hc]; exact h.1 c h0 h1
    · exact h.1 c h0 h1
  · rw [vPlace_ne _ _ _ _ _ (by omega) (by omega) (by omega)]
    exact h.2
theorem Vl_seat {I : mIt} {b : Nat} (h : Vl I b) (n mc nc : Nat) (name : Int) {v : Int} (kn one other : Int) (hv : 0 ≤ v ∧ v ≤ 9999) : Vl (seatI I b n mc nc name v kn one other) b := by
  have hp : Vl (seatP I b n mc nc one other) b := by
    unfold seatP
    split
    · exact Vl_send h _ (Vl_vOn h _)
    · exact h
  unfold seatI
  split
  · exact h
  · refine Vl_up (Vl_place hp (seatV I b n mc nc one other) kn (I b 5) hv) ?_ ?_ <;> rw [mUp_ne _ _ _ (by omega)]
theorem Vl_fs {I : mIt} {b : Nat} (h : Vl I b) (n mc nc : Nat) (name one other : Int) (h0 : 0 ≤ name) (h8 : name < 8) : Vl (fsI I b n mc nc name one other) b := by
  unfold fsI
  split
  · exact Vl_seat (Vl_up h (mUp_ne _ _ _ (by omega)) (mUp_ne _ _ _ (by omega))) _ _ _ _ _ _ _ (h.2 _ h0 h8)
  · exact h
theorem res_rng {w x y : Int} (hx0 : 0 ≤ x) (hy0 : 0 ≤ y) : 0 ≤ res w x y ∧ res w x y ≤ 9999 := by
  unfold res
  split <;> (try split) <;> omega
def goOk (what name one other : Int) : Prop := (0 ≤ what ∧ what ≤ 2) ∧ (0 ≤ name ∧ name ≤ 7) ∧ (0 ≤ one ∧ one ≤ 7) ∧ (0 ≤ other ∧ other ≤ 7)
def goA (I : mIt) (b : Nat) (name one other : Int) : mIt := if name = one ∨ name = other then mUp I b 5 (I b 5 + 1) else mUp (mUp I b 5 (I b 5 + 1)) (b + 3) name (-1)
def goB (I : mIt) (b n mc nc : Nat) (name one other : Int) : mIt := fsI (goA I b name one other) b n mc nc one one other
def goC (I : mIt) (b n mc nc : Nat) (name one other : Int) : mIt := fsI (goB I b n mc nc name one other) b n mc nc other one other
def go1 (I : mIt) (b n mc nc : Nat) (name one other : Int) : Bool := fsB (goA I b name one other) b n mc nc one one other
def go2 (I : mIt) (b n mc nc : Nat) (name one other : Int) : Bool := fsB (goB I b n mc nc name one other) b n mc nc other one other
def goF (I : mIt) (b n mc nc : Nat) (name one other : Int) : Int := goC I b n mc nc name one other (b + 3) one
def goG (I : mIt) (b n mc nc : Nat) (name one other : Int) : Int := goC I b n mc nc name one other (b + 3) other
def goX (I : mIt) (b n mc nc : Nat) (what name one other : Int) : Int := res what (vOn (goC I b n mc nc name one other (b + 6)) (goF I b n mc nc name one other)) (vOn (goC I b n mc nc name one other (b + 6)) (goG I b n mc nc name one other))
def goS (I : mIt) (b n mc nc : Nat) (name one other : Int) : Int := seatV (goC I b n mc nc name one other) b n mc nc one other
def goD (I : mIt) (b n mc nc : Nat) (what name one other : Int) : mIt := seatI (goC I b n mc nc name one other) b n mc nc name (goX I b n mc nc what name one other) 1000000 one other
def goE (I : mIt) (b n mc nc : Nat) (what name one other : Int) : mIt := oAdd (vUse (vUse (goD I b n mc nc what name one other) (b + 8) (goF I b n mc nc name one other) (I b 5 + 1)) (b + 8) (goG I b n mc nc name one other) (I b 5 + 1)) (b + 9) (b + 10) (b + 11) (b + 12) (b + 13) (b + 14) what (goS I b n mc nc name one other) (goF I b n mc nc name one other) (goG I b n mc nc name one other) mc
def goV (I : mIt) (b n mc nc : Nat) (what name one other : Int) : Int := if ¬ ((0 ≤ what ∧ what ≤ 2) ∧ (0 ≤ name ∧ name ≤ 7) ∧ (0 ≤ one ∧ one ≤ 7) ∧ (0 ≤ other ∧ other ≤ 7)) then -1 else if go1 I b n mc nc name one other = false then -2 else if go2 I b n mc nc name one other = false then -2 else if goS I b n mc nc name one other < 0 then -2 else if 6 ≤ n then -3 else goS I b n mc nc name one other
def goM (I : mIt) (b n mc nc : Nat) (what name one other : Int) : mIt := if ¬ ((0 ≤ what ∧ what ≤ 2) ∧ (0 ≤ name ∧ name ≤ 7) ∧ (0 ≤ one ∧ one ≤ 7) ∧ (0 ≤ other ∧ other ≤ 7)) then I else if go1 I b n mc nc name one other = false then goB I b n mc nc name one other else if go2 I b n mc nc name one other = false then goC I b n mc nc name one other else if goS I b n mc nc name one other < 0 then goD I b n mc nc what name one other else if 6 ≤ n then goD I b n mc nc what name one other else goE I b n mc nc what name one other
theorem goA_ne (I : mIt) {b x : Nat} (name one other : Int) (h0 : x ≠ b) (h3 : x ≠ b + 3) : goA I b name one other x = I x := by
  unfold goA
  split
  · rw [mUp_ne _ _ _ h0]
  · rw [mUp_ne _ _ _ h3, mUp_ne _ _ _ h0]
theorem goA_b (I : mIt) (b : Nat) (name one other : Int) {k : Int} (h : k ≠ 5) : goA I b name one other b k = I b k := by
  unfold goA
  split
  · rw [mUp_at, fset_ne _ _ h]
  · rw [mUp_ne _ _ _ (by omega), mUp_at, fset_ne _ _ h]
theorem goA_5 (I : mIt) (b : Nat) (name one other : Int) : goA I b name one other b 5 = I b 5 + 1 := by
  unfold goA
  split
  · rw [mUp_at, fset_at]
  · rw [mUp_ne _ _ _ (by omega), mUp_at, fset_at]
/-- all that stays as it is up to the new version -/
def keepB (I J : mIt) (b : Nat) : Prop := (∀ x, x ≠ b → x ≠ b + 3 → x ≠ b + 4 → x ≠ b + 6 → x ≠ b + 7 → x ≠ b + 8 → J x = I x) ∧ (∀ k, k ≠ 3 → k ≠ 4 → k ≠ 5 → J b k = I b k)
theorem goB_ne (I : mIt) {b x : Nat} (n mc nc : Nat) (name one other : Int) (h0 : x ≠ b) (h1 : x ≠ b + 3) (h2 : x ≠ b + 4) (h3 : x ≠ b + 6) (h4 : x ≠ b + 7) (h5 : x ≠ b + 8) : goB I b n mc nc name one other x = I x := by
  unfold goB
  rw [fsI_ne _ _ _ _ _ _ _ h0 h1 h2 h3 h4 h5, goA_ne _ _ _ _ h0 h1]
theorem goC_ne (I : mIt) {b x : Nat} (n mc nc : Nat) (name one other : Int) (h0 : x ≠ b) (h1 : x ≠ b + 3) (h2 : x ≠ b + 4) (h3 : x ≠ b + 6) (h4 : x ≠ b + 7) (h5 : x ≠ b + 8) : goC I b n mc nc name one other x = I x := by
  unfold goC
  rw [fsI_ne _ _ _ _ _ _ _ h0 h1 h2 h3 h4 h5, goB_ne _ _ _ _ _ _ _ h0 h1 h2 h3 h4 h5]
theorem goD_ne (I : mIt) {b x : Nat} (n mc nc : Nat) (what name one other : Int) (h0 : x ≠ b) (h1 : x ≠ b + 3) (h2 : x ≠ b + 4) (h3 : x ≠ b + 6) (h4 : x ≠ b + 7) (h5 : x ≠ b + 8) : goD I b n mc nc what name one other x = I x := by
  unfold goD
  rw [seatI_ne _ _ _ _ _ _ _ _ _ h0 h1 h2 h3 h4 h5, goC_ne _ _ _ _ _ _ _ h0 h1 h2 h3 h4 h5]
theorem goC_b (I : mIt) (b n mc nc : Nat) (name one other : Int) {k : Int} (h3 : k ≠ 3) (h4 : k ≠ 4) : goC I b n mc nc name one other b k = goA I b name one other b k := by
  unfold goC goB
  rw [fsI_b _ _ _ _ _ _ _ _ h3 h4, fsI_b _ _ _ _ _ _ _ _ h3 h4]
theorem goB_b (I : mIt) (b n mc nc : Nat) (name one other : Int) {k : Int} (h3 : k ≠ 3) (h4 : k ≠ 4) : goB I b n mc nc name one other b k = goA I b name one other b k := by
  unfold goB
  rw [fsI_b _ _ _ _ _ _ _ _ h3 h4]
theorem goD_b (I : mIt) (b n mc nc : Nat) (what name one other : Int) {k : Int} (h3 : k ≠ 3) (h4 : k ≠ 4) : goD I b n mc nc what name one other b k = goA I b name one other b k := by
  unfold goD
  rw [seatI_b _ _ _ _ _ _ _ _ _ _ h3, goC_b _ _ _ _ _ _ _ _ h3 h4]
theorem go_34 (I : mIt) (b n mc nc : Nat) (name one other : Int) : (I b 3 ≤ goB I b n mc nc name one other b 3 ∧ goB I b n mc nc name one other b 3 ≤ I b 3 + 1) ∧ (I b 4 ≤ goB I b n mc nc name one other b 4 ∧ goB I b n mc nc name one other b 4 ≤ I b 4 + 1) ∧ (I b 3 ≤ goC I b n mc nc name one other b 3 ∧ goC I b n mc nc name one other b 3 ≤ I b 3 + 2) ∧ (I b 4 ≤ goC I b n mc nc name one other b 4 ∧ goC I b n mc nc name one other b 4 ≤ I b 4 + 2) := by
  have h1 := fsI_34 (goA I b name one other) b n mc nc one one other
  have h2 := fsI_34 (goB I b n mc nc name one other) b n mc nc other one other
  have e3 := goA_b I b name one other (k := 3) (by decide)
  have e4 := goA_b I b name one other (k := 4) (by decide)
  unfold goC
  unfold goB at h2 ⊢
  omega
theorem Vl_goC {I : mIt} {b : Nat} (h : Vl I b) (n mc nc : Nat) (name : Int) {one other : Int} (h0 : 0 ≤ one) (h8 : one < 8) (g0 : 0 ≤ other) (g8 : other < 8) : Vl (goC I b n mc nc name one other) b := by
  unfold goC goB
  refine Vl_fs (Vl_fs (Vl_up h ?_ ?_) _ _ _ _ _ _ h0 h8) _ _ _ _ _ _ g0 g8
  · exact goA_ne _ _ _ _ (by omega) (by omega)
  · exact goA_ne _ _ _ _ (by omega) (by omega)
set_option maxRecDepth 20000 in
set_option maxHeartbeats 4000000 in
theorem Fn_X2_giveOrder (k : Nat) (I : mIt) (P : mPt) (b : Nat) (hR : isRm P b) (n : Nat) (hn : I (b + 9) 0 = n) (hn6 : n ≤ 6) (mc : Nat) (hm : I b 6 = mc) (hm3 : mc ≤ 3) (nc : Nat) (hc : I b 0 = nc) (hc7 : nc ≤ 7) (hB : Bd I b) (hB3 : I b 3 ≤ 1999999990) (hB4 : I b 4 ≤ 1999999990) (hB5 : I b 5 ≤ 1999999990) (hV : Vl I b) (what name one other : Int) : WP (k + 3) mX2_giveOrder none (0, 0) (Rt (some (.inl (goV I b n mc nc what name one other))) (lay0, goM I b n mc nc what name one other, P)) 0 [(0, .inr (some b)), (1, .inl what), (2, .inl name), (3, .inl one), (4, .inl other)] [] (lay0, I, P) := by
  unfold Bd at hB
  refine r_iload_n (d := mX2_giveOrder) (pc := 0) (i := 1) (v := what) dX2_giveOrder_0 rfl rfl ?_
  refine r_iconst (d := mX2_giveOrder) (pc := 1) (n := 0) dX2_giveOrder_1 ?_
  refine r_iconst (d := mX2_giveOrder) (pc := 2) (n := 2) dX2_giveOrder_2 ?_
  refine r_cSN3 (d := mX2_giveOrder) (pc := 3) (dj := mX5_within) dX2_giveOrder_3 mnRX2_97 staX5_within okX5_within (by decide) rfl (Nat.le_of_ble_eq_true rfl) (by decide) (by decide) (Fn_X5_within (k + 2) I P what 0 2) ?_
  refine r_ifb_eq (d := mX2_giveOrder) (pc := 6) (tgt := 31) dX2_giveOrder_6 (by decide) (fun h6 => ?_) (fun h6 => ?_)
  · refine r_iconst (d := mX2_giveOrder) (pc := 31) (n := (-1)) dX2_giveOrder_31 ?_
    exact r_iret (d := mX2_giveOrder) (pc := 32) dX2_giveOrder_32 rfl (rtI (by rw [goV, if_pos (by omega)]) (by first | rw [goM, if_pos (by omega)] | rw [goM, if_neg (by omega), if_pos (by simpa using h72)] | rw [goM, if_neg (by omega), if_neg (by simpa using h72), if_pos (by simpa using h84)] | rw [goM, if_neg (by omega), if_neg (by simpa using h72), if_neg (by simpa using h84), if_pos (by omega)] | rw [goM, if_neg (by omega), if_neg (by simpa using h72), if_neg (by simpa using h84), if_neg (by omega), if_pos (by omega)] | (rw [goM, if_neg (by omega), if_neg (by simpa using h72), if_neg (by simpa using h84), if_neg (by omega), if_neg (by omega)]; rfl))) (by decide) (by decide)
  · refine r_iload_n (d := mX2_giveOrder) (pc := 9) (i := 2) (v := name) dX2_giveOrder_9 rfl rfl ?_
    refine r_cSN1 (d := mX2_giveOrder) (pc := 10) (dj := mX5_isName) dX2_giveOrder_10 mnRX2_107 staX5_isName okX5_isName (by decide) rfl (Nat.le_of_ble_eq_true rfl) (by decide) (by decide) (Fn_X5_isName (k + 1) I P name) ?_
    refine r_ifb_eq (d := mX2_giveOrder) (pc := 13) (tgt := 31) dX2_giveOrder_13 (by decide) (fun h13 => ?_) (fun h13 => ?_)
    · refine r_iconst (d := mX2_giveOrder) (pc := 31) (n := (-1)) dX2_giveOrder_31 ?_
      exact r_iret (d := mX2_giveOrder) (pc := 32) dX2_giveOrder_32 rfl (rtI (by rw [goV, if_pos (by omega)]) (by first | rw [goM, if_pos (by omega)] | rw [goM, if_neg (by omega), if_pos (by simpa using h72)] | rw [goM, if_neg (by omega), if_neg (by simpa using h72), if_pos (by simpa using h84)] | rw [goM, if_neg (by omega), if_neg (by simpa using h72), if_neg (by simpa using h84), if_pos (by omega)] | rw [goM, if_neg (by omega), if_neg (by simpa using h72), if_neg (by simpa using h84), if_neg (by omega), if_pos (by omega)] | (rw [goM, if_neg (by omega), if_neg (by simpa using h72), if_neg (by simpa using h84), if_neg (by omega), if_neg (by omega)]; rfl))) (by decide) (by decide)
    · refine r_iload_n (d := mX2_giveOrder) (pc := 16) (i := 3) (v := one) dX2_giveOrder_16 rfl rfl ?_
      refine r_cSN1 (d := mX2_giveOrder) (pc := 17) (dj := mX5_isName) dX2_giveOrder_17 mnRX2_107 staX5_isName okX5_isName (by decide) rfl (Nat.le_of_ble_eq_true rfl) (by decide) (by decide) (Fn_X5_isName (k + 1) I P one) ?_
      refine r_ifb_eq (d := mX2_giveOrder) (pc := 20) (tgt := 31) dX2_giveOrder_20 (by decide) (fun h20 => ?_) (fun h20 => ?_)
      · refine r_iconst (d := mX2_giveOrder) (pc := 31) (n := (-1)) dX2_giveOrder_31 ?_
        exact r_iret (d := mX2_giveOrder) (pc := 32) dX2_giveOrder_32 rfl (rtI (by rw [goV, if_pos (by omega)]) (by first | rw [goM, if_pos (by omega)] | rw [goM, if_neg (by omega), if_pos (by simpa using h72)] | rw [goM, if_neg (by omega), if_neg (by simpa using h72), if_pos (by simpa using h84)] | rw [goM, if_neg (by omega), if_neg (by simpa using h72), if_neg (by simpa using h84), if_pos (by omega)] | rw [goM, if_neg (by omega), if_neg (by simpa using h72), if_neg (by simpa using h84), if_neg (by omega), if_pos (by omega)] | (rw [goM, if_neg (by omega), if_neg (by simpa using h72), if_neg (by simpa using h84), if_neg (by omega), if_neg (by omega)]; rfl))) (by decide) (by decide)
      · refine r_iload (d := mX2_giveOrder) (pc := 23) (i := 4) (v := other) dX2_giveOrder_23 rfl ?_
        refine r_cSN1 (d := mX2_giveOrder) (pc := 25) (dj := mX5_isName) dX2_giveOrder_25 mnRX2_107 staX5_isName okX5_isName (by decide) rfl (Nat.le_of_ble_eq_true rfl) (by decide) (by decide) (Fn_X5_isName (k + 1) I P other) ?_
        refine r_ifb_ne (d := mX2_giveOrder) (pc := 28) (tgt := 33) dX2_giveOrder_28 (by decide) (fun h28 => ?_) (fun h28 => ?_)
        · refine r_aload_n (d := mX2_giveOrder) (pc := 33) (i := 0) (v := b) dX2_giveOrder_33 rfl rfl ?_
          refine r_dup (d := mX2_giveOrder) (pc := 34) dX2_giveOrder_34 ?_
          refine r_getIs (d := mX2_giveOrder) (pc := 35) (a := b) (kd := 2) (j := 5) (x := (I b 5)) dX2_giveOrder_35 flRX2_27 hR.1.1 (by decide) (by decide) rfl (rfl) ?_
          refine r_iconst (d := mX2_giveOrder) (pc := 38) (n := 1) dX2_giveOrder_38 ?_
          refine r_iadd (d := mX2_giveOrder) (pc := 39) dX2_giveOrder_39 ?_
          refine r_putIs (d := mX2_giveOrder) (pc := 40) (a := b) (kd := 2) (j := 5) (lay0, mUp I b 5 ((I b 5) + 1), P) dX2_giveOrder_40 flRX2_27 hR.1.1 (by decide) (by decide) rfl rfl (Or.inl rfl) rfl ?_
          have T64 : WP (k + 3) mX2_giveOrder none (0, 0) (Rt (some (.inl (goV I b n mc nc what name one other))) (lay0, goM I b n mc nc what name one other, P)) 64 [(0, .inr (some b)), (1, .inl what), (2, .inl name), (3, .inl one), (4, .inl other)] [] (lay0, goA I b name one other, P) := by
            refine r_aload_n (d := mX2_giveOrder) (pc := 64) (i := 0) (v := b) dX2_giveOrder_64 rfl rfl ?_
            refine r_iload_n (d := mX2_giveOrder) (pc := 65) (i := 3) (v := one) dX2_giveOrder_65 rfl rfl ?_
            refine r_iload_n (d := mX2_giveOrder) (pc := 66) (i := 3) (v := one) dX2_giveOrder_66 rfl rfl ?_
            refine r_iload (d := mX2_giveOrder) (pc := 67) (i := 4) (v := other) dX2_giveOrder_67 rfl ?_
            refine r_cV3 (d := mX2_giveOrder) (pc := 69) (dj := mX2_findSeat) (a := b) (kd := 2) dX2_giveOrder_69 mlRX2_118 inX2_findSeat selX2_findSeat rfl hR.1.1 (by decide) okX2_findSeat (by decide) rfl (Nat.le_of_ble_eq_true rfl) (by decide) (by decide) (Fn_X2_findSeat k (goA I b name one other) P b hR n (by rw [goA_ne _ _ _ _ (by omega) (by omega)]; exact hn) hn6 mc (by rw [goA_b _ _ _ _ _ (by decide)]; exact hm) hm3 nc (by rw [goA_b _ _ _ _ _ (by decide)]; exact hc) hc7 (by rw [goA_b _ _ _ _ _ (by decide)]; unfold mI; omega) (by rw [goA_b _ _ _ _ _ (by decide)]; unfold mI; omega) (by rw [goA_b _ _ _ _ _ (by decide), goA_ne _ _ _ _ (by omega) (by omega)]; unfold mI; omega) one one other (by omega) (by omega)) ?_
            change WP _ _ _ _ _ _ _ [.inl (bI (go1 I b n mc nc name one other = true))] (lay0, goB I b n mc nc name one other, P)
            refine r_ifb_eq (d := mX2_giveOrder) (pc := 72) (tgt := 87) dX2_giveOrder_72 (by decide) (fun h72 => ?_) (fun h72 => ?_)
            · refine r_bipush (d := mX2_giveOrder) (pc := 87) (n := (-2)) dX2_giveOrder_87 ?_
              exact r_iret (d := mX2_giveOrder) (pc := 89) dX2_giveOrder_89 rfl (rtI (by first | rw [goV, if_neg (by omega), if_pos (by simpa using h72)] | rw [goV, if_neg (by omega), if_neg (by simpa using h72), if_pos (by simpa using h84)]) (by first | rw [goM, if_pos (by omega)] | rw [goM, if_neg (by omega), if_pos (by simpa using h72)] | rw [goM, if_neg (by omega), if_neg (by simpa using h72), if_pos (by simpa using h84)] | rw [goM, if_neg (by omega), if_neg (by simpa using h72), if_neg (by simpa using h84), if_pos (by omega)] | rw [goM, if_neg (by omega), if_neg (by simpa using h72), if_neg (by simpa using h84), if_neg (by omega), if_pos (by omega)] | (rw [goM, if_neg (by omega), if_neg (by simpa using h72), if_neg (by simpa using h84), if_neg (by omega), if_neg (by omega)]; rfl))) (by decide) (by decide)
            · refine r_aload_n (d := mX2_giveOrder) (pc := 75) (i := 0) (v := b) dX2_giveOrder_75 rfl rfl ?_
              refine r_iload (d := mX2_giveOrder) (pc := 76) (i := 4) (v := other) dX2_giveOrder_76 rfl ?_
              refine r_iload_n (d := mX2_giveOrder) (pc := 78) (i := 3) (v := one) dX2_giveOrder_78 rfl rfl ?_
              refine r_iload (d := mX2_giveOrder) (pc := 79) (i := 4) (v := other) dX2_giveOrder_79 rfl ?_
              refine r_cV3 (d := mX2_giveOrder) (pc := 81) (dj := mX2_findSeat) (a := b) (kd := 2) dX2_giveOrder_81 mlRX2_118 inX2_findSeat selX2_findSeat rfl hR.1.1 (by decide) okX2_findSeat (by decide) rfl (Nat.le_of_ble_eq_true rfl) (by decide) (by decide) (Fn_X2_findSeat k (goB I b n mc nc name one other) P b hR n (by rw [goB_ne _ _ _ _ _ _ _ (by omega) (by omega) (by omega) (by omega) (by omega) (by omega)]; exact hn) hn6 mc (by rw [goB_b _ _ _ _ _ _ _ _ (by decide) (by decide), goA_b _ _ _ _ _ (by decide)]; exact hm) hm3 nc (by rw [goB_b _ _ _ _ _ _ _ _ (by decide) (by decide), goA_b _ _ _ _ _ (by decide)]; exact hc) hc7 (by have h34 := go_34 I b n mc nc name one other; unfold mI; omega) (by have h34 := go_34 I b n mc nc name one other; unfold mI; omega) (by rw [goB_b _ _ _ _ _ _ _ _ (by decide) (by decide), goA_b _ _ _ _ _ (by decide), goB_ne _ _ _ _ _ _ _ (by omega) (by omega) (by omega) (by omega) (by omega) (by omega)]; unfold mI; omega) other one other (by omega) (by omega)) ?_
              change WP _ _ _ _ _ _ _ [.inl (bI (go2 I b n mc nc name one other = true))] (lay0, goC I b n mc nc name one other, P)
              refine r_ifb_ne (d := mX2_giveOrder) (pc := 84) (tgt := 90) dX2_giveOrder_84 (by decide) (fun h84 => ?_) (fun h84 => ?_)
              · refine r_aload_n (d := mX2_giveOrder) (pc := 90) (i := 0) (v := b) dX2_giveOrder_90 rfl rfl ?_
                refine r_getRs (d := mX2_giveOrder) (pc := 91) (a := b) (kd := 2) (j := 8) (x := b + 2) dX2_giveOrder_91 flRX2_40 hR.1.1 (by decide) (by decide) rfl hR.2.1.2.1 ?_
                refine r_getRs (d := mX2_giveOrder) (pc := 94) (a := b + 2) (kd := 0) (j := 0) (x := b + 3) dX2_giveOrder_94 flRX2_111 hR.2.2.1.1 (by decide) (by decide) rfl hR.2.2.1.2.2.2.1 ?_
                refine r_iload_n (d := mX2_giveOrder) (pc := 97) (i := 3) (v := one) dX2_giveOrder_97 rfl rfl ?_
                refine r_ialds (d := mX2_giveOrder) (pc := 98) (a := b + 3) (x := ((goC I b n mc nc name one other) (b + 3) one)) dX2_giveOrder_98 hR.2.2.1.2.1 (by omega) (by omega) (rfl) ?_
                change WP _ _ _ _ _ _ _ [.inl (goF I b n mc nc name one other)] (lay0, goC I b n mc nc name one other, P)
                refine r_istore (d := mX2_giveOrder) (pc := 99) (i := 5) (lv' := [(0, .inr (some b)), (1, .inl what), (2, .inl name), (3, .inl one), (4, .inl other), (5, .inl (goF I b n mc nc name one other))]) dX2_giveOrder_99 (by decide) rfl rfl ?_
                refine r_aload_n (d := mX2_giveOrder) (pc := 101) (i := 0) (v := b) dX2_giveOrder_101 rfl rfl ?_
                refine r_getRs (d := mX2_giveOrder) (pc := 102) (a := b) (kd := 2) (j := 8) (x := b + 2) dX2_giveOrder_102 flRX2_40 hR.1.1 (by decide) (by decide) rfl hR.2.1.2.1 ?_
                refine r_getRs (d := mX2_giveOrder) (pc := 105) (a := b + 2) (kd := 0) (j := 0) (x := b + 3) dX2_giveOrder_105 flRX2_111 hR.2.2.1.1 (by decide) (by decide) rfl hR.2.2.1.2.2.2.1 ?_
                refine r_iload (d := mX2_giveOrder) (pc := 108) (i := 4) (v := other) dX2_giveOrder_108 rfl ?_
                refine r_ialds (d := mX2_giveOrder) (pc := 110) (a := b + 3) (x := ((goC I b n mc nc name one other) (b + 3) other)) dX2_giveOrder_110 hR.2.2.1.2.1 (by omega) (by omega) (rfl) ?_
                change WP _ _ _ _ _ _ _ [.inl (goG I b n mc nc name one other)] (lay0, goC I b n mc nc name one other, P)
                refine r_istore (d := mX2_giveOrder) (pc := 111) (i := 6) (lv' := [(0, .inr (some b)), (1, .inl what), (2, .inl name), (3, .inl one), (4, .inl other), (5, .inl (goF I b n mc nc name one other)), (6, .inl (goG I b n mc nc name one other))]) dX2_giveOrder_111 (by decide) rfl rfl ?_
                have hvv := Vl_vOn (Vl_goC hV n mc nc name (one := one) (other := other) (by omega) (by omega) (by omega) (by omega))
                refine r_iload_n (d := mX2_giveOrder) (pc := 113) (i := 1) (v := what) dX2_giveOrder_113 rfl rfl ?_
                refine r_aload_n (d := mX2_giveOrder) (pc := 114) (i := 0) (v := b) dX2_giveOrder_114 rfl rfl ?_
                refine r_getRs (d := mX2_giveOrder) (pc := 115) (a := b) (kd := 2) (j := 9) (x := b + 5) dX2_giveOrder_115 flRX2_47 hR.1.1 (by decide) (by decide) rfl hR.2.1.2.2.1 ?_
                refine r_iload (d := mX2_giveOrder) (pc := 118) (i := 5) (v := goF I b n mc nc name one other) dX2_giveOrder_118 rfl ?_
                refine r_cV1 (d := mX2_giveOrder) (pc := 120) (dj := mX4_valueOn) (a := b + 5) (kd := 4) dX2_giveOrder_120 mlRX2_125 inX4_valueOn selX4_valueOn rfl hR.2.2.2.1.1 (by decide) okX4_valueOn (by decide) rfl (Nat.le_of_ble_eq_true rfl) (by decide) (by decide) (Fn_X4_valueOn (k + 2) (goC I b n mc nc name one other) P (b + 5) (b + 6) (b + 7) (b + 8) hR.2.2.2.1  (goF I b n mc nc name one other)) ?_
                refine r_aload_n (d := mX2_giveOrder) (pc := 123) (i := 0) (v := b) dX2_giveOrder_123 rfl rfl ?_
                refine r_getRs (d := mX2_giveOrder) (pc := 124) (a := b) (kd := 2) (j := 9) (x := b + 5) dX2_giveOrder_124 flRX2_47 hR.1.1 (by decide) (by decide) rfl hR.2.1.2.2.1 ?_
                refine r_iload (d := mX2_giveOrder) (pc := 127) (i := 6) (v := goG I b n mc nc name one other) dX2_giveOrder_127 rfl ?_
                refine r_cV1 (d := mX2_giveOrder) (pc := 129) (dj := mX4_valueOn) (a := b + 5) (kd := 4) dX2_giveOrder_129 mlRX2_125 inX4_valueOn selX4_valueOn rfl hR.2.2.2.1.1 (by decide) okX4_valueOn (by decide) rfl (Nat.le_of_ble_eq_true rfl) (by decide) (by decide) (Fn_X4_valueOn (k + 2) (goC I b n mc nc name one other) P (b + 5) (b + 6) (b + 7) (b + 8) hR.2.2.2.1  (goG I b n mc nc name one other)) ?_
                refine r_cS3 (d := mX2_giveOrder) (pc := 132) (dj := mX2_result) dX2_giveOrder_132 mlRX2_128 staX2_result okX2_result (by decide) rfl (Nat.le_of_ble_eq_true rfl) (by decide) (by decide) (Fn_X2_result (k + 1) (goC I b n mc nc name one other) P what (vOn ((goC I b n mc nc name one other) (b + 6)) (goF I b n mc nc name one other)) (vOn ((goC I b n mc nc name one other) (b + 6)) (goG I b n mc nc name one other)) (by omega) (hvv _).1 (hvv _).2 (hvv _).1 (hvv _).2) ?_
                change WP _ _ _ _ _ _ _ [.inl (goX I b n mc nc what name one other)] (lay0, goC I b n mc nc name one other, P)
                refine r_istore (d := mX2_giveOrder) (pc := 135) (i := 7) (lv' := [(0, .inr (some b)), (1, .inl what), (2, .inl name), (3, .inl one), (4, .inl other), (5, .inl (goF I b n mc nc name one other)), (6, .inl (goG I b n mc nc name one other)), (7, .inl (goX I b n mc nc what name one other))]) dX2_giveOrder_135 (by decide) rfl rfl ?_
                refine r_aload_n (d := mX2_giveOrder) (pc := 137) (i := 0) (v := b) dX2_giveOrder_137 rfl rfl ?_
                refine r_iload_n (d := mX2_giveOrder) (pc := 138) (i := 2) (v := name) dX2_giveOrder_138 rfl rfl ?_
                refine r_iload (d := mX2_giveOrder) (pc := 139) (i := 7) (v := goX I b n mc nc what name one other) dX2_giveOrder_139 rfl ?_
                refine r_ldc (d := mX2_giveOrder) (pc := 141) (n := 1000000) ctRX2_132 dX2_giveOrder_141 ?_
                refine r_iload_n (d := mX2_giveOrder) (pc := 143) (i := 3) (v := one) dX2_giveOrder_143 rfl rfl ?_
                refine r_iload (d := mX2_giveOrder) (pc := 144) (i := 4) (v := other) dX2_giveOrder_144 rfl ?_
                refine r_cV5 (d := mX2_giveOrder) (pc := 146) (dj := mX2_seat) (a := b) (kd := 2) dX2_giveOrder_146 mlRX2_114 inX2_seat selX2_seat rfl hR.1.1 (by decide) okX2_seat (by decide) rfl (Nat.le_of_ble_eq_true rfl) (by decide) (by decide) (Fn_X2_seat (k + 1) (goC I b n mc nc name one other) P b hR n (by rw [goC_ne _ _ _ _ _ _ _ (by omega) (by omega) (by omega) (by omega) (by omega) (by omega)]; exact hn) hn6 mc (by rw [goC_b _ _ _ _ _ _ _ _ (by decide) (by decide), goA_b _ _ _ _ _ (by decide)]; exact hm) hm3 nc (by rw [goC_b _ _ _ _ _ _ _ _ (by decide) (by decide), goA_b _ _ _ _ _ (by decide)]; exact hc) hc7 (by have h34 := go_34 I b n mc nc name one other; unfold mI; omega) name (goX I b n mc nc what name one other) 1000000 one other (by omega) (by omega)) ?_
                change WP _ _ _ _ _ _ _ [.inl (goS I b n mc nc name one other)] (lay0, goD I b n mc nc what name one other, P)
                refine r_istore (d := mX2_giveOrder) (pc := 149) (i := 8) (lv' := [(0, .inr (some b)), (1, .inl what), (2, .inl name), (3, .inl one), (4, .inl other), (5, .inl (goF I b n mc nc name one other)), (6, .inl (goG I b n mc nc name one other)), (7, .inl (goX I b n mc nc what name one other)), (8, .inl (goS I b n mc nc name one other))]) dX2_giveOrder_149 (by decide) rfl rfl ?_
                have hsv := seatV_rng (goC I b n mc nc name one other) b n mc nc one other
                change goS I b n mc nc name one other = -2 ∨ (0 ≤ goS I b n mc nc name one other ∧ goS I b n mc nc name one other < nc) at hsv
                refine r_iload (d := mX2_giveOrder) (pc := 151) (i := 8) (v := goS I b n mc nc name one other) dX2_giveOrder_151 rfl ?_
                refine r_if_ge (d := mX2_giveOrder) (pc := 153) (tgt := 159) dX2_giveOrder_153 (by decide) (fun h153 => ?_) (fun h153 => ?_)
                · refine r_aload_n (d := mX2_giveOrder) (pc := 159) (i := 0) (v := b) dX2_giveOrder_159 rfl rfl ?_
                  refine r_getRs (d := mX2_giveOrder) (pc := 160) (a := b) (kd := 2) (j := 10) (x := b + 9) dX2_giveOrder_160 flRX2_54 hR.1.1 (by decide) (by decide) rfl hR.2.1.2.2.2.1 ?_
                  refine r_getIs (d := mX2_giveOrder) (pc := 163) (a := b + 9) (kd := 1) (j := 0) (x := (n : Int)) dX2_giveOrder_163 flRX2_101 hR.2.2.2.2.1.1 (by decide) (by decide) rfl (by show goD I b n mc nc what name one other (b + 9) 0 = _; rw [goD_ne _ _ _ _ _ _ _ _ (by omega) (by omega) (by omega) (by omega) (by omega) (by omega)]; exact hn) ?_
                  refine r_bipush (d := mX2_giveOrder) (pc := 166) (n := 6) dX2_giveOrder_166 ?_
                  refine r_icmp_lt (d := mX2_giveOrder) (pc := 168) (tgt := 174) dX2_giveOrder_168 (by decide) (fun h168 => ?_) (fun h168 => ?_)
                  · refine r_aload_n (d := mX2_giveOrder) (pc := 174) (i := 0) (v := b) dX2_giveOrder_174 rfl rfl ?_
                    refine r_getRs (d := mX2_giveOrder) (pc := 175) (a := b) (kd := 2) (j := 9) (x := b + 5) dX2_giveOrder_175 flRX2_47 hR.1.1 (by decide) (by decide) rfl hR.2.1.2.2.1 ?_
                    refine r_iload (d := mX2_giveOrder) (pc := 178) (i := 5) (v := goF I b n mc nc name one other) dX2_giveOrder_178 rfl ?_
                    refine r_aload_n (d := mX2_giveOrder) (pc := 180) (i := 0) (v := b) dX2_giveOrder_180 rfl rfl ?_
                    refine r_getIs (d := mX2_giveOrder) (pc := 181) (a := b) (kd := 2) (j := 5) (x := (I b 5 + 1)) dX2_giveOrder_181 flRX2_27 hR.1.1 (by decide) (by decide) rfl (by show (goD I b n mc nc what name one other) b 5 = _; rw [goD_b _ _ _ _ _ _ _ _ _ (by decide) (by decide), goA_5]) ?_
                    refine r_cV2 (d := mX2_giveOrder) (pc := 184) (dj := mX4_use) (a := b + 5) (kd := 4) dX2_giveOrder_184 mlRX2_121 inX4_use selX4_use rfl hR.2.2.2.1.1 (by decide) okX4_use (by decide) rfl (Nat.le_of_ble_eq_true rfl) (by decide) (by decide) (Fn_X4_use (k + 2) (goD I b n mc nc what name one other) P (b + 5) (b + 6) (b + 7) (b + 8) hR.2.2.2.1  (goF I b n mc nc name one other) (I b 5 + 1)) ?_
                    refine r_aload_n (d := mX2_giveOrder) (pc := 187) (i := 0) (v := b) dX2_giveOrder_187 rfl rfl ?_
                    refine r_getRs (d := mX2_giveOrder) (pc := 188) (a := b) (kd := 2) (j := 9) (x := b + 5) dX2_giveOrder_188 flRX2_47 hR.1.1 (by decide) (by decide) rfl hR.2.1.2.2.1 ?_
                    refine r_iload (d := mX2_giveOrder) (pc := 191) (i := 6) (v := goG I b n mc nc name one other) dX2_giveOrder_191 rfl ?_
                    refine r_aload_n (d := mX2_giveOrder) (pc := 193) (i := 0) (v := b) dX2_giveOrder_193 rfl rfl ?_
                    refine r_getIs (d := mX2_giveOrder) (pc := 194) (a := b) (kd := 2) (j := 5) (x := (I b 5 + 1)) dX2_giveOrder_194 flRX2_27 hR.1.1 (by decide) (by decide) rfl (by show (vUse (goD I b n mc nc what name one other) (b + 8) (goF I b n mc nc name one other) (I b 5 + 1)) b 5 = _; rw [vUse_ne _ _ _ (by omega), goD_b _ _ _ _ _ _ _ _ _ (by decide) (by decide), goA_5]) ?_
                    refine r_cV2 (d := mX2_giveOrder) (pc := 197) (dj := mX4_use) (a := b + 5) (kd := 4) dX2_giveOrder_197 mlRX2_121 inX4_use selX4_use rfl hR.2.2.2.1.1 (by decide) okX4_use (by decide) rfl (Nat.le_of_ble_eq_true rfl) (by decide) (by decide) (Fn_X4_use (k + 2) (vUse (goD I b n mc nc what name one other) (b + 8) (goF I b n mc nc name one other) (I b 5 + 1)) P (b + 5) (b + 6) (b + 7) (b + 8) hR.2.2.2.1  (goG I b n mc nc name one other) (I b 5 + 1)) ?_
                    refine r_aload_n (d := mX2_giveOrder) (pc := 200) (i := 0) (v := b) dX2_giveOrder_200 rfl rfl ?_
                    refine r_getRs (d := mX2_giveOrder) (pc := 201) (a := b) (kd := 2) (j := 10) (x := b + 9) dX2_giveOrder_201 flRX2_54 hR.1.1 (by decide) (by decide) rfl hR.2.1.2.2.2.1 ?_
                    refine r_iload_n (d := mX2_giveOrder) (pc := 204) (i := 1) (v := what) dX2_giveOrder_204 rfl rfl ?_
                    refine r_iload (d := mX2_giveOrder) (pc := 205) (i := 8) (v := goS I b n mc nc name one other) dX2_giveOrder_205 rfl ?_
                    refine r_iload (d := mX2_giveOrder) (pc := 207) (i := 5) (v := goF I b n mc nc name one other) dX2_giveOrder_207 rfl ?_
                    refine r_iload (d := mX2_giveOrder) (pc := 209) (i := 6) (v := goG I b n mc nc name one other) dX2_giveOrder_209 rfl ?_
                    refine r_aload_n (d := mX2_giveOrder) (pc := 211) (i := 0) (v := b) dX2_giveOrder_211 rfl rfl ?_
                    refine r_getIs (d := mX2_giveOrder) (pc := 212) (a := b) (kd := 2) (j := 6) (x := (mc : Int)) dX2_giveOrder_212 flRX2_30 hR.1.1 (by decide) (by decide) rfl (by show (vUse (vUse (goD I b n mc nc what name one other) (b + 8) (goF I b n mc nc name one other) (I b 5 + 1)) (b + 8) (goG I b n mc nc name one other) (I b 5 + 1)) b 6 = _; rw [vUse_ne _ _ _ (by omega), vUse_ne _ _ _ (by omega), goD_b _ _ _ _ _ _ _ _ _ (by decide) (by decide), goA_b _ _ _ _ _ (by decide)]; exact hm) ?_
                    refine r_cV5 (d := mX2_giveOrder) (pc := 215) (dj := mX1_add) (a := b + 9) (kd := 1) dX2_giveOrder_215 mlRX2_133 inX1_add selX1_add rfl hR.2.2.2.2.1.1 (by decide) okX1_add (by decide) rfl (Nat.le_of_ble_eq_true rfl) (by decide) (by decide) (Fn_X1_add (k + 2) (vUse (vUse (goD I b n mc nc what name one other) (b + 8) (goF I b n mc nc name one other) (I b 5 + 1)) (b + 8) (goG I b n mc nc name one other) (I b 5 + 1)) P (b + 9) (b + 10) (b + 11) (b + 12) (b + 13) (b + 14) hR.2.2.2.2.1 (by omega) (by omega) (by omega) (by omega) (by omega) what (goS I b n mc nc name one other) (goF I b n mc nc name one other) (goG I b n mc nc name one other) (mc : Int)) ?_
                    refine r_iload (d := mX2_giveOrder) (pc := 218) (i := 8) (v := goS I b n mc nc name one other) dX2_giveOrder_218 rfl ?_
                    exact r_iret (d := mX2_giveOrder) (pc := 220) dX2_giveOrder_220 rfl (rtI (by rw [goV, if_neg (by omega), if_neg (by simpa using h72), if_neg (by simpa using h84), if_neg (by omega), if_neg (by omega)]) (by first | rw [goM, if_pos (by omega)] | rw [goM, if_neg (by omega), if_pos (by simpa using h72)] | rw [goM, if_neg (by omega), if_neg (by simpa using h72), if_pos (by simpa using h84)] | rw [goM, if_neg (by omega), if_neg (by simpa using h72), if_neg (by simpa using h84), if_pos (by omega)] | rw [goM, if_neg (by omega), if_neg (by simpa using h72), if_neg (by simpa using h84), if_neg (by omega), if_pos (by omega)] | (rw [goM, if_neg (by omega), if_neg (by simpa using h72), if_neg (by simpa using h84), if_neg (by omega), if_neg (by omega)]; rfl))) (by decide) (by decide)
                  · refine r_bipush (d := mX2_giveOrder) (pc := 171) (n := (-3)) dX2_giveOrder_171 ?_
                    exact r_iret (d := mX2_giveOrder) (pc := 173) dX2_giveOrder_173 rfl (rtI (by rw [goV, if_neg (by omega), if_neg (by simpa using h72), if_neg (by simpa using h84), if_neg (by omega), if_pos (by omega)]) (by first | rw [goM, if_pos (by omega)] | rw [goM, if_neg (by omega), if_pos (by simpa using h72)] | rw [goM, if_neg (by omega), if_neg (by simpa using h72), if_pos (by simpa using h84)] | rw [goM, if_neg (by omega), if_neg (by simpa using h72), if_neg (by simpa using h84), if_pos (by omega)] | rw [goM, if_neg (by omega), if_neg (by simpa using h72), if_neg (by simpa using h84), if_neg (by omega), if_pos (by omega)] | (rw [goM, if_neg (by omega), if_neg (by simpa using h72), if_neg (by simpa using h84), if_neg (by omega), if_neg (by omega)]; rfl))) (by decide) (by decide)
                · refine r_bipush (d := mX2_giveOrder) (pc := 156) (n := (-2)) dX2_giveOrder_156 ?_
                  exact r_iret (d := mX2_giveOrder) (pc := 158) dX2_giveOrder_158 rfl (rtI (by rw [goV, if_neg (by omega), if_neg (by simpa using h72), if_neg (by simpa using h84), if_pos (by omega)]) (by first | rw [goM, if_pos (by omega)] | rw [goM, if_neg (by omega), if_pos (by simpa using h72)] | rw [goM, if_neg (by omega), if_neg (by simpa using h72), if_pos (by simpa using h84)] | rw [goM, if_neg (by omega), if_neg (by simpa using h72), if_neg (by simpa using h84), if_pos (by omega)] | rw [goM, if_neg (by omega), if_neg (by simpa using h72), if_neg (by simpa using h84), if_neg (by omega), if_pos (by omega)] | (rw [goM, if_neg (by omega), if_neg (by simpa using h72), if_neg (by simpa using h84), if_neg (by omega), if_neg (by omega)]; rfl))) (by decide) (by decide)
              · refine r_bipush (d := mX2_giveOrder) (pc := 87) (n := (-2)) dX2_giveOrder_87 ?_
                exact r_iret (d := mX2_giveOrder) (pc := 89) dX2_giveOrder_89 rfl (rtI (by first | rw [goV, if_neg (by omega), if_pos (by simpa using h72)] | rw [goV, if_neg (by omega), if_neg (by simpa using h72), if_pos (by simpa using h84)]) (by first | rw [goM, if_pos (by omega)] | rw [goM, if_neg (by omega), if_pos (by simpa using h72)] | rw [goM, if_neg (by omega), if_neg (by simpa using h72), if_pos (by simpa using h84)] | rw [goM, if_neg (by omega), if_neg (by simpa using h72), if_neg (by simpa using h84), if_pos (by omega)] | rw [goM, if_neg (by omega), if_neg (by simpa using h72), if_neg (by simpa using h84), if_neg (by omega), if_pos (by omega)] | (rw [goM, if_neg (by omega), if_neg (by simpa using h72), if_neg (by simpa using h84), if_neg (by omega), if_neg (by omega)]; rfl))) (by decide) (by decide)
          refine r_iload_n (d := mX2_giveOrder) (pc := 43) (i := 2) (v := name) dX2_giveOrder_43 rfl rfl ?_
          refine r_iload_n (d := mX2_giveOrder) (pc := 44) (i := 3) (v := one) dX2_giveOrder_44 rfl rfl ?_
          refine r_icmp_eq (d := mX2_giveOrder) (pc := 45) (tgt := 64) dX2_giveOrder_45 (by decide) (fun h45 => ?_) (fun h45 => ?_)
          · exact wpE (by rfl) (by rfl) (by first | rw [goA, if_pos (by omega)] | rw [goA, if_neg (by omega)]) T64
          · refine r_iload_n (d := mX2_giveOrder) (pc := 48) (i := 2) (v := name) dX2_giveOrder_48 rfl rfl ?_
            refine r_iload (d := mX2_giveOrder) (pc := 49) (i := 4) (v := other) dX2_giveOrder_49 rfl ?_
            refine r_icmp_eq (d := mX2_giveOrder) (pc := 51) (tgt := 64) dX2_giveOrder_51 (by decide) (fun h51 => ?_) (fun h51 => ?_)
            · exact wpE (by rfl) (by rfl) (by first | rw [goA, if_pos (by omega)] | rw [goA, if_neg (by omega)]) T64
            · refine r_aload_n (d := mX2_giveOrder) (pc := 54) (i := 0) (v := b) dX2_giveOrder_54 rfl rfl ?_
              refine r_getRs (d := mX2_giveOrder) (pc := 55) (a := b) (kd := 2) (j := 8) (x := b + 2) dX2_giveOrder_55 flRX2_40 hR.1.1 (by decide) (by decide) rfl hR.2.1.2.1 ?_
              refine r_getRs (d := mX2_giveOrder) (pc := 58) (a := b + 2) (kd := 0) (j := 0) (x := b + 3) dX2_giveOrder_58 flRX2_111 hR.2.2.1.1 (by decide) (by decide) rfl hR.2.2.1.2.2.2.1 ?_
              refine r_iload_n (d := mX2_giveOrder) (pc := 61) (i := 2) (v := name) dX2_giveOrder_61 rfl rfl ?_
              refine r_iconst (d := mX2_giveOrder) (pc := 62) (n := (-1)) dX2_giveOrder_62 ?_
              refine r_iasts (d := mX2_giveOrder) (pc := 63) (a := b + 3) (lay0, mUp (mUp I b 5 ((I b 5) + 1)) (b + 3) name (-1), P) dX2_giveOrder_63 hR.2.2.1.2.1 (by omega) (by omega) rfl ?_
              exact wpE (by rfl) (by rfl) (by first | rw [goA, if_pos (by omega)] | rw [goA, if_neg (by omega)]) T64
        · refine r_iconst (d := mX2_giveOrder) (pc := 31) (n := (-1)) dX2_giveOrder_31 ?_
          exact r_iret (d := mX2_giveOrder) (pc := 32) dX2_giveOrder_32 rfl (rtI (by rw [goV, if_pos (by omega)]) (by first | rw [goM, if_pos (by omega)] | rw [goM, if_neg (by omega), if_pos (by simpa using h72)] | rw [goM, if_neg (by omega), if_neg (by simpa using h72), if_pos (by simpa using h84)] | rw [goM, if_neg (by omega), if_neg (by simpa using h72), if_neg (by simpa using h84), if_pos (by omega)] | rw [goM, if_neg (by omega), if_neg (by simpa using h72), if_neg (by simpa using h84), if_neg (by omega), if_pos (by omega)] | (rw [goM, if_neg (by omega), if_neg (by simpa using h72), if_neg (by simpa using h84), if_neg (by omega), if_neg (by omega)]; rfl))) (by decide) (by decide)
