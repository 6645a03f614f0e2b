/-! ===== the mathematics: a chair for a version ===== -/
theorem freeB_iff {t : Int} {j : Nat} (hj : j < 8) : freeB t j = !bt t j := by
  unfold freeB
  rw [bt_at t j hj]
  cases bt t j <;> decide
theorem seC0_eq {I : mIt} {b n mc nc : Nat} {s : Int → Int} (h : RR I b s) (hn : s 3 = n) (hm : s 2 = mc) (hc : s 0 = nc) : seC0 I b n mc nc = cf0 s nc := by
  obtain ⟨⟨hH, hN, hM, hO, hQ, hW, hV, eH, eN, eM, eO, eC, eD, hR⟩, hX, hz, hd⟩ := h
  refine lowR_congr nc 0 (fun i _ hi => ?_)
  have h7 := hH.1
  rw [freeB_iff (by omega)]
  have e := tkn_bt (I := I) (b := b) hH hN hO hM eN eO eM hn hm (j := i) (by omega)
  have w := hW i (by omega) (by omega)
  have x := hX i (by omega) (by omega)
  unfold fr0
  by_cases q : need s i
  · rw [e.mpr q, w.2 q]; rfl
  · rw [Bool.eq_false_iff.mpr (fun z => q (e.mp z)), x q]; rfl
theorem cf0_or {s : Int → Int} {nc : Nat} : cf0 s nc = -1 ∨ ∃ x : Int, cf0 s nc = x ∧ 0 ≤ x ∧ x < nc ∧ s (28 + 5 * x + 0) = 0 := by
  rcases lowR_or (p := fr0 s) nc 0 with h | ⟨i, h, h1, h2, h3⟩
  · exact Or.inl h
  · exact Or.inr ⟨i, h, by omega, by omega, by simpa [fr0] using h3⟩
/-- what may be sent out, on both sides -/
def mayP (s : Int → Int) (one other c : Int) : Prop := hadP s c ∧ ¬ pinP s c ∧ s (28 + 5 * c + 2) = 1 ∧ ¬ (0 ≤ one ∧ (s (12 + one) = c ∨ s (12 + other) = c))
theorem mayM_iff {s : Int → Int} {n m : Nat} {one other c : Int} (hn : s 3 = n) (hm : s 2 = m) (hm3 : m ≤ 3) (hW : IvW s) (hX : IvX s) (h0 : 0 ≤ c) (h1 : c < s 0) : mayM s n m one other c = true ↔ mayP s one other c := by
  unfold mayM mayP
  rw [Bool.and_eq_true, Bool.and_eq_true, Bool.and_eq_true, Bool.and_eq_true, Bool.and_eq_true, decide_eq_true_eq, decide_eq_true_eq, decide_eq_true_eq, decide_eq_true_eq, Bool.not_eq_true', Bool.not_eq_true', decide_eq_false_iff_not]
  have r1 := mkM_rng (s := s) (c := c) hm3
  have r2 := rdM_nn (s := s) (c := c) (n := n)
  have e1 := mkM_iff (c := c) hm hm3
  have e2 := rdM_iff (c := c) hn
  have e3 := ofM_iff (c := c) hn
  have w := hW c h0 h1
  have x := hX c h0 h1
  constructor
  · rintro ⟨⟨⟨⟨⟨q1, q2⟩, q3⟩, q4⟩, q5⟩, q6⟩
    have p : ¬ pinP s c := by
      rintro (p | p | p)
      · have := e1.mpr p; omega
      · have := e2.mpr p; omega
      · have := e3.mpr p; rw [this] at q5; cases q5
    refine ⟨?_, p, q2, q6⟩
    refine Classical.byContradiction (fun hh => ?_)
    have := x (fun nd => nd.elim hh p)
    omega
  · rintro ⟨q1, q2, q3, q4⟩
    refine ⟨⟨⟨⟨⟨w.2 (Or.inl q1), q3⟩, ?_⟩, ?_⟩, ?_⟩, q4⟩
    · have : ¬ 0 < mkM s c m := fun z => q2 (Or.inl (e1.mp z))
      omega
    · have : ¬ 0 < rdM s c n := fun z => q2 (Or.inr (Or.inl (e2.mp z)))
      omega
    · exact Bool.eq_false_iff.mpr (fun z => q2 (Or.inr (Or.inr (e3.mp z))))
/-- what is read, on both sides -/
def rdQ (I : mIt) (b : Nat) (s : Int → Int) (one other one' other' : Int) : Prop := ∀ j : Nat, j < 8 → ((bt (csetOf (I (b + 3)) one) j = true ∨ bt (csetOf (I (b + 3)) other) j = true) ↔ (0 ≤ one' ∧ (s (12 + one') = (j : Int) ∨ s (12 + other') = (j : Int))))
theorem seC1_eq {I : mIt} {b n mc : Nat} {s : Int → Int} {one other one' other' : Int} (h : RR I b s) (hn : s 3 = n) (hm : s 2 = mc) (hq : rdQ I b s one other one' other') : ∀ j : Nat, (j : Int) ≤ s 0 →
    (luF (cand I b n mc one other) (I b 1) (I (b + 7)) (I (b + 8)) j = -1 ∧ nxM s n mc one' other' j = -4) ∨ (∃ x : Int, luF (cand I b n mc one other) (I b 1) (I (b + 7)) (I (b + 8)) j = x ∧ nxM s n mc one' other' j = x ∧ 0 ≤ x ∧ x < j ∧ mayP s one' other' x) := by
  obtain ⟨⟨hH, hN, hM, hO, hQ, hW, hV, eH, eN, eM, eO, eC, eD, hR⟩, hX, hz, hd⟩ := h
  have h7 := hH.1
  have hm3 : mc ≤ 3 := by have := hH.2.2.1; omega
  have cnd : ∀ j : Nat, (j : Int) < s 0 → ((bAnd (bShr (cand I b n mc one other) (j : Int)) 1 = 1 ∧ I (b + 7) j ≤ I b 1) ↔ mayP s one' other' j) := by
    intro j hj
    have hj8 : j < 8 := by omega
    have e1 : (bAnd (bShr (cand I b n mc one other) (j : Int)) 1 = 1) ↔ bt (cand I b n mc one other) j = true := by
      rw [bt_at _ j hj8]; cases bt (cand I b n mc one other) j <;> decide
    rw [e1]
    unfold cand
    rw [bt_and, bt_and, bt_not _ _ (by omega), bt_not _ _ (by omega), bt_or, Bool.and_eq_true, Bool.and_eq_true, Bool.not_eq_true', Bool.not_eq_true', had_bt hH hN eN hj8]
    have p1 := pin_bt (I := I) (b := b) hH hO hM eO eM hn hm hj8
    have p2 := hq j hj8
    have p3 : (bt (pinA I b n mc) j = false) ↔ ¬ pinP s j := by rw [← p1]; cases bt (pinA I b n mc) j <;> decide
    have p4 : ((bt (csetOf (I (b + 3)) one) j || bt (csetOf (I (b + 3)) other) j) = false) ↔ ¬ (0 ≤ one' ∧ (s (12 + one') = (j : Int) ∨ s (12 + other') = (j : Int))) := by
      rw [← p2]; cases bt (csetOf (I (b + 3)) one) j <;> cases bt (csetOf (I (b + 3)) other) j <;> simp
    rw [p3, p4, eH.2.1]
    unfold mayP
    constructor
    · rintro ⟨⟨⟨q1, q2⟩, q3⟩, q4⟩
      refine ⟨q1, q2, ?_, q3⟩
      have c := (eC j (by omega) hj (Or.inl q1)).2
      rcases c with c | ⟨_, _, c⟩
      · exact absurd (Or.inr (Or.inr c.1)) q2
      · omega
    · rintro ⟨q1, q2, q3, q4⟩
      refine ⟨⟨⟨q1, q2⟩, q4⟩, ?_⟩
      have c := (eC j (by omega) hj (Or.inl q1)).2
      rcases c with c | ⟨_, _, c⟩
      · exact absurd (Or.inr (Or.inr c.1)) q2
      · omega
  intro j
  induction j with
  | zero => intro _; exact Or.inl ⟨rfl, rfl⟩
  | succ j ih =>
    intro hj
    have ih' := ih (by omega)
    have cj := cnd j (by omega)
    have mj := mayM_iff (one := one') (other := other') (c := (j : Int)) hn hm hm3 hW hX (by omega) (by omega)
    rw [luF, nxM]
    by_cases q : mayP s one' other' j
    · have us : ∀ x : Int, 0 ≤ x → x < j → mayP s one' other' x → (I (b + 8) j < I (b + 8) x ↔ s (28 + 5 * (j : Int) + 4) < s (28 + 5 * x + 4)) := by
        intro x h0 h1 qx
        have c1 := (eC j (by omega) (by omega) (Or.inl q.1)).1
        have c2 := (eC x h0 (by omega) (Or.inl qx.1)).1
        omega
      rcases ih' with ⟨i1, i2⟩ | ⟨x, i1, i2, i3, i4, i5⟩
      · rw [i1, i2, if_pos ⟨cj.mpr q, Or.inl rfl⟩, if_pos ⟨mj.mpr q, Or.inl (by omega)⟩]
        exact Or.inr ⟨j, rfl, rfl, by omega, by omega, q⟩
      · rw [i1, i2]
        by_cases hu : I (b + 8) j < I (b + 8) x
        · rw [if_pos ⟨cj.mpr q, Or.inr hu⟩, if_pos ⟨mj.mpr q, Or.inr ((us x i3 i4 i5).mp hu)⟩]
          exact Or.inr ⟨j, rfl, rfl, by omega, by omega, q⟩
        · rw [if_neg (fun z => z.2.elim (fun y => by omega) hu), if_neg (fun z => z.2.elim (fun y => by omega) (fun y => hu ((us x i3 i4 i5).mpr y)))]
          exact Or.inr ⟨x, rfl, rfl, i3, by omega, i5⟩
    · rw [if_neg (fun z => q (cj.mp z.1)), if_neg (fun z => q (mj.mp z.1))]
      rcases ih' with i | ⟨x, i1, i2, i3, i4, i5⟩
      · exact Or.inl i
      · exact Or.inr ⟨x, i1, i2, i3, by omega, i5⟩
/-- a chair on both sides: the same, free or one whose version is sent out; or none -/
theorem seat_eq {I : mIt} {b n mc nc : Nat} {s : Int → Int} {one other one' other' : Int} (h : RR I b s) (hn : s 3 = n) (hm : s 2 = mc) (hc : s 0 = nc) (hq : rdQ I b s one other one' other') :
    (seatV I b n mc nc one other = -2 ∧ cfV s n mc nc one' other' = -4) ∨ (∃ x : Int, 0 ≤ x ∧ x < s 0 ∧ seatV I b n mc nc one other = x ∧ cfV s n mc nc one' other' = x ∧
      ((¬ need s x ∧ seatP I b n mc nc one other = I ∧ cfS s n mc nc one' other' = s) ∨ (mayP s one' other' x ∧ seatP I b n mc nc one other = sendI I b x (I (b + 6) x) ∧ cfS s n mc nc one' other' = fset (snR s x 8) 5 (s 5 + 1)))) := by
  have e0 := seC0_eq h hn hm hc
  have e1 := seC1_eq h hn hm hq nc (by omega)
  obtain ⟨⟨hH, hN, hM, hO, hQ, hW, hV, eH, eN, eM, eO, eC, eD, hR⟩, hX, hz, hd⟩ := h
  have h7 := hH.1
  unfold seatV cfV seatP cfS
  rcases cf0_or (s := s) (nc := nc) with q | ⟨x, q, q1, q2, q3⟩
  · rw [e0, q, if_pos rfl, if_pos rfl]
    unfold seC1
    rcases e1 with ⟨e1, e2⟩ | ⟨x, e1, e2, i3, i4, i5⟩
    · rw [e1, e2]; exact Or.inl ⟨rfl, rfl⟩
    · refine Or.inr ⟨x, i3, by omega, ?_, ?_, Or.inr ⟨i5, ?_, ?_⟩⟩
      · rw [e1, if_neg (by omega)]
      · exact e2
      · rw [e1, if_pos ⟨rfl, by omega⟩, vOn, if_pos ⟨i3, by omega⟩]
      · rw [e2, if_pos ⟨rfl, by omega⟩]
  · rw [e0, q, if_neg (by omega), if_neg (by omega)]
    refine Or.inr ⟨x, q1, by omega, rfl, rfl, Or.inl ⟨?_, ?_, ?_⟩⟩
    · intro nd
      have := (hW x q1 (by omega)).2 nd
      omega
    · rw [if_neg (fun z => by omega)]
    · rw [if_neg (fun z => by omega)]
