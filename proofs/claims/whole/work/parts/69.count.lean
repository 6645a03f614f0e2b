/-! ===== the mathematics: what is counted; how long until a value is known ===== -/
theorem bOr_nat (a b : Nat) (ha : a < 256) (hb : b < 256) : bOr (a : Int) (b : Int) = ((a ||| b : Nat) : Int) := by
  have h : a ||| b < 2 ^ 8 := Nat.or_lt_two_pow (n := 8) ha hb
  unfold bOr
  have e : Int32.ofInt (a : Int) ||| Int32.ofInt (b : Int) = Int32.ofInt ((a ||| b : Nat) : Int) := by
    apply Int32.toBitVec_inj.mp
    rw [Int32.toBitVec_or]
    show BitVec.ofInt 32 a ||| BitVec.ofInt 32 b = BitVec.ofInt 32 ((a ||| b : Nat) : Int)
    rw [BitVec.ofInt_natCast, BitVec.ofInt_natCast, BitVec.ofInt_natCast]
    simp
  rw [e]
  exact mI_toInt (x := ((a ||| b : Nat) : Int)) ⟨by omega, by omega⟩
theorem bOr_rg {x y : Int} (h0 : 0 ≤ x) (h1 : x < 256) (g0 : 0 ≤ y) (g1 : y < 256) : 0 ≤ bOr x y ∧ bOr x y < 256 := by
  obtain ⟨a, rfl⟩ : ∃ a : Nat, x = a := ⟨x.toNat, by omega⟩
  obtain ⟨b, rfl⟩ : ∃ b : Nat, y = b := ⟨y.toNat, by omega⟩
  rw [bOr_nat a b (by omega) (by omega)]
  have h : a ||| b < 2 ^ 8 := Nat.or_lt_two_pow (n := 8) (by omega) (by omega)
  omega
theorem bShl_rg {c : Int} (h0 : 0 ≤ c) (h1 : c < 8) : 0 ≤ bShl 1 c ∧ bShl 1 c < 256 := by
  obtain ⟨a, rfl⟩ : ∃ a : Nat, c = a := ⟨c.toNat, by omega⟩
  have : ∀ c : Nat, c < 8 → 0 ≤ bShl 1 (c : Int) ∧ bShl 1 (c : Int) < 256 := by decide +kernel
  exact this a (by omega)
theorem tkn_rg {I : mIt} {b n mc : Nat} {s : Int → Int} (h : RR I b s) (hn : s 3 = n) (hm : s 2 = mc) : 0 ≤ tkn I b n mc ∧ tkn I b n mc < 256 := by
  obtain ⟨⟨hH, hN, hM, hO, hQ, hW, hV, eH, eN, eM, eO, eC, eD, hR⟩, hX, hz, hd, hsat⟩ := h
  have h7 := hH.1
  have cs : ∀ j : Nat, j ≤ 8 → 0 ≤ cset (I (b + 3)) j ∧ cset (I (b + 3)) j < 256 := by
    intro j
    induction j with
    | zero => intro _; rw [cset]; omega
    | succ j ih =>
      intro hj
      have i := ih (by omega)
      have r := (hN j (by omega) (by omega)).1
      have e := (eN j (by omega) (by omega)).1
      rw [cset]
      split
      · exact i
      · have := bShl_rg (c := I (b + 3) j) (by omega) (by omega)
        exact bOr_rg i.1 i.2 this.1 this.2
  have po : ∀ j : Nat, j ≤ n → 0 ≤ pinO (I (b + 11)) (I (b + 12)) (I (b + 13)) j ∧ pinO (I (b + 11)) (I (b + 12)) (I (b + 13)) j < 256 := by
    intro j
    induction j with
    | zero => intro _; rw [pinO]; omega
    | succ j ih =>
      intro hj
      have i := ih (by omega)
      have r := hO j (by omega) (by omega)
      have e := eO j (by omega) (by omega)
      simp only at e
      rw [pinO, e.2.1, e.2.2.1, e.2.2.2.1]
      have s1 := bShl_rg (c := s (111 + 7 * (j : Int) + 1)) (by omega) (by omega)
      have s2 := bShl_rg (c := s (111 + 7 * (j : Int) + 2)) (by omega) (by omega)
      have s3 := bShl_rg (c := s (111 + 7 * (j : Int) + 3)) (by omega) (by omega)
      have o1 := bOr_rg s1.1 s1.2 s2.1 s2.2
      have o2 := bOr_rg o1.1 o1.2 s3.1 s3.2
      exact bOr_rg i.1 i.2 o2.1 o2.2
  have pi : ∀ (k : Nat) (x : Int), k < 8 → 0 ≤ x → x < 256 → ∀ j : Nat, j ≤ mc → 0 ≤ pinI (mks I b) k x j ∧ pinI (mks I b) k x j < 256 := by
    intro k x hk x0 x1 j
    induction j with
    | zero => intro _; rw [pinI]; omega
    | succ j ih =>
      intro hj
      have i := ih (by omega)
      have r := (hM j k (by omega) (by omega) (by omega) (by omega)).1
      have e := (eM j (by omega) (by omega) k (by omega) (by omega)).1
      rw [pinI]
      split
      · exact i
      · have q : mks I b j k = s (63 + 16 * (j : Int) + k) := e
        have := bShl_rg (c := mks I b j k) (by omega) (by omega)
        exact bOr_rg i.1 i.2 this.1 this.2
  have pn : ∀ j : Nat, j ≤ 8 → 0 ≤ pinN (mks I b) mc (pinO (I (b + 11)) (I (b + 12)) (I (b + 13)) n) j ∧ pinN (mks I b) mc (pinO (I (b + 11)) (I (b + 12)) (I (b + 13)) n) j < 256 := by
    intro j
    induction j with
    | zero => intro _; rw [pinN]; exact po n (Nat.le_refl _)
    | succ j ih =>
      intro hj
      have i := ih (by omega)
      rw [pinN]
      exact pi j _ (by omega) i.1 i.2 mc (Nat.le_refl _)
  have a := pn 8 (Nat.le_refl _)
  have c := cs 8 (Nat.le_refl _)
  exact bOr_rg a.1 a.2 c.1 c.2
theorem need_lt {s : Int → Int} {c : Int} (hN : IvN s) (hM : IvM s) (hO : IvO s) (h : need s c) : c < s 0 := by
  rcases h with ⟨k, a, b, f⟩ | ⟨m, a, b, k, d, e, f⟩ | ⟨k, a, b, f⟩ | ⟨k, a, b, f⟩
  · have := (hN k a b).1; omega
  · have := (hM m k a b d e).1; omega
  · have := hO k a b; omega
  · have := hO k a b; omega
theorem count_R {I : mIt} {b n mc nc : Nat} {s : Int → Int} (h : RR I b s) (hn : s 3 = n) (hm : s 2 = mc) (hc : s 0 = nc) (ps ty w : Int) (h10 : w ≠ 10) (h11 : w ≠ 11) : tuV I b n mc nc w = coV s n nc ps ty w := by
  have h' := h
  obtain ⟨⟨hH, hN, hM, hO, hQ, hW, hV, eH, eN, eM, eO, eC, eD, hR⟩, hX, hz, hd, hsat⟩ := h
  have h7 := hH.1
  have h6 := hH.2.2.2.1
  have l1 : ∀ j : Nat, j ≤ 8 → mnV s n nc 1 j + onesF (tkn I b n mc) j = if (j : Int) ≤ nc then (j : Int) else nc := by
    intro j
    induction j with
    | zero => intro _; rw [mnV, onesF, if_pos (by omega)]; rfl
    | succ j ih =>
      intro hj
      have i := ih (by omega)
      have tb := tkn_bt (I := I) (b := b) hH hN hO hM eN eO eM hn hm (j := j) (by omega)
      rw [mnV, onesF, bt_at _ j (by omega)]
      by_cases nd : need s j
      · have lt := need_lt hN hM hO nd
        have hw := (hW j (by omega) lt).2 nd
        rw [if_pos (tb.mpr nd), if_neg (by omega)]
        omega
      · rw [if_neg (fun z => nd (tb.mp z))]
        by_cases lt : (j : Int) < nc
        · have hx := hX j (by omega) (by omega) nd
          rw [if_pos (Or.inl ⟨rfl, lt, hx⟩)]
          omega
        · rw [if_neg (by omega)]
          omega
  have l2 : ∀ j : Nat, j ≤ 8 → mnV s n nc 2 j + onesF (nmask (I (b + 3)) (-1) 8) j = (j : Int) := by
    intro j
    induction j with
    | zero => intro _; rw [mnV, onesF]; rfl
    | succ j ih =>
      intro hj
      have i := ih (by omega)
      have nb := nmask_bt (f := I (b + 3)) (w := -1) (j := j) (by omega) 8 (Nat.le_refl _)
      have e := (eN j (by omega) (by omega)).1
      have r := (hN j (by omega) (by omega)).1
      rw [mnV, onesF, bt_at _ j (by omega)]
      by_cases q : I (b + 3) j = -1
      · rw [if_pos (nb.mpr ⟨by omega, q⟩), if_neg (by omega)]
        omega
      · rw [if_neg (fun z => q (nb.mp z).2), if_pos (Or.inr (Or.inl ⟨rfl, by omega⟩))]
        omega
  have l4a : ∀ j : Nat, j ≤ n → mnV s n nc 4 j = bgn (I (b + 7)) (I (b + 11)) j := by
    intro j
    induction j with
    | zero => intro _; rfl
    | succ j ih =>
      intro hj
      have i := ih (by omega)
      have e := (eO j (by omega) (by omega)).2.1
      have o := hO j (by omega) (by omega)
      have d := (eD j (by omega) (by omega)).1
      have hT := hH.2.1
      have k1 : kOf (I (b + 7)) (I (b + 11) j) = I (b + 7) (s (111 + 7 * (j : Int) + 1)) := by
        rw [show I (b + 11) (j : Int) = s (111 + 7 * (j : Int) + 1) from e]; unfold kOf; rw [if_pos (by omega)]
      rw [mnV, i, bgn, k1]
      by_cases dd : I (b + 7) (s (111 + 7 * (j : Int) + 1)) ≠ 1000000
      · rw [if_pos dd, if_pos (Or.inr (Or.inr ⟨by omega, by omega, by omega, by omega⟩))]
      · rw [if_neg dd, if_neg (by omega)]
        omega
  have l4b : ∀ j : Nat, n ≤ j → mnV s n nc 4 j = bgn (I (b + 7)) (I (b + 11)) n := by
    intro j
    induction j with
    | zero => intro hj; have : n = 0 := by omega
              rw [this]; rfl
    | succ j ih =>
      intro hj
      by_cases q : n ≤ j
      · rw [mnV, ih q, if_neg (by omega)]; omega
      · have : n = j + 1 := by omega
        rw [l4a (j + 1) (by omega), this]
  have a1 := l1 8 (Nat.le_refl _)
  have a2 := l2 8 (Nat.le_refl _)
  have a4 := l4b 8 (by omega)
  rw [if_neg (by omega)] at a1
  have e4 := eH.2.2.2.2
  have t1 := eH.1
  have t2 := eH.2.1
  have t3 := eH.2.2.1
  have t4 := eH.2.2.2.1
  by_cases q : (0 ≤ w ∧ w ≤ 9) ∨ (20 ≤ w ∧ w ≤ 23)
  · rcases (by omega : w = 0 ∨ w = 1 ∨ w = 2 ∨ w = 3 ∨ w = 4 ∨ w = 5 ∨ w = 6 ∨ w = 7 ∨ w = 8 ∨ w = 9 ∨ w = 20 ∨ w = 21 ∨ w = 22 ∨ w = 23) with z | z | z | z | z | z | z | z | z | z | z | z | z | z <;> subst z
    · exact hc.symm
    · show (nc : Int) - onesF (tkn I b n mc) 8 = mnV s n nc 1 8
      omega
    · show 8 - onesF (nmask (I (b + 3)) (-1) 8) 8 = mnV s n nc 2 8
      omega
    · exact hn.symm
    · exact a4.symm
    · exact hd
    · exact t2
    · exact hm.symm
    · exact t3
    · exact hsat
    · exact e4.1
    · exact e4.2.1
    · exact e4.2.2.1
    · exact e4.2.2.2
  · have e1 : tuV I b n mc nc w = -1 := by
      unfold tuV
      rw [if_neg (by omega), if_neg (by omega), if_neg (by omega), if_neg (by omega), if_neg (by omega), if_neg (by omega), if_neg (by omega), if_neg (by omega), if_neg (by omega), if_neg (by omega), if_neg (by omega)]
    have e2 : coV s n nc ps ty w = -1 := by
      unfold coV
      rw [if_neg (by omega), if_neg (by omega), if_neg (by omega), if_neg (by omega), if_neg (by omega), if_neg (by omega), if_neg (by omega), if_neg (by omega), if_neg (by omega), if_neg (by omega), if_neg (by omega)]
    rw [e1, e2]
/-- an idle room's ticks -/
theorem idle_tick (I : mIt) (b : Nat) : ∀ j : Nat, (tks I b 0 j).2 = 0 ∧ (tks I b 0 j).1 (b + 7) = I (b + 7) := by
  intro j
  induction j with
  | zero => exact ⟨rfl, rfl⟩
  | succ j ih =>
    rw [tks, ih.1]
    have e : tkN (tks I b 0 j).1 b 0 = 0 := rfl
    refine ⟨e, ?_⟩
    rw [← ih.2]
    show begI (finI (mUp (tks I b 0 j).1 b 1 ((tks I b 0 j).1 b 1 + 1)) b 0) b 0 (b + 7) = _
    unfold begI
    rw [arS_at, boS, finI_ne _ _ (by omega) (by omega), mUp_ne _ _ _ (by omega)]
theorem tks_add (I : mIt) (b n : Nat) (j : Nat) : ∀ k : Nat, tks I b n (j + k) = tks (tks I b n j).1 b (tks I b n j).2 k := by
  intro k
  induction k with
  | zero => rfl
  | succ k ih => rw [← Nat.add_assoc, tks, ih]; rfl
/-- a forecast of the end of all orders -/
theorem idle_R {I : mIt} {b n m nc : Nat} {s : Int → Int} (h : RR I b s) (hn : s 3 = n) (hm : s 2 = m) (hc : s 0 = nc) (hT : s 1 ≤ 50000) : idV I b n ≤ 139 ∧ (tkM s n m nc (idV I b n)).2 = 0 ∧ ∀ j : Nat, j < idV I b n → 0 < (tkM s n m nc j).2 := by
  have hn6 : n ≤ 6 := by have := h.1.1.2.2.2.1; omega
  obtain ⟨J, j1, j2⟩ := idle_ex 139 I s n h hn (by omega) (fun hp => by have := m0_rng h (by omega); omega)
  have sp := fstF_spec (p := idP I b n) 1000 0 ⟨J, by omega, by omega, decide_eq_true j2⟩
  obtain ⟨p1, p2, p3, p4⟩ := sp
  change idP I b n (idV I b n) = true at p1
  change idV I b n < 0 + 1000 at p3
  have le : idV I b n ≤ J := by
    refine Classical.byContradiction (fun q => ?_)
    have := p4 J (by omega) (by omega : J < idV I b n)
    rw [show idP I b n J = true from decide_eq_true j2] at this
    cases this
  refine ⟨by omega, ?_, fun j hj => ?_⟩
  · have := (tks_R h hn hm hc (idV I b n) (by omega)).2.1
    rw [← this]; exact of_decide_eq_true p1
  · have := (tks_R h hn hm hc j (by omega)).2.1
    rw [← this]
    have q := p4 j (by omega) hj
    have := of_decide_eq_false q
    omega
/-- a forecast of a value -/
theorem known_R {I : mIt} {b n m nc : Nat} {s : Int → Int} {name : Int} (h : RR I b s) (hn : s 3 = n) (hm : s 2 = m) (hc : s 0 = nc) (hT : s 1 ≤ 50000) (n0 : 0 ≤ name) (n7 : name ≤ 7) : knV I b n name ≤ 148 ∧ (s (12 + name) < 0 ∨ (tkM s n m nc (knV I b n name)).1 (28 + 5 * s (12 + name) + 2) ≠ 0) ∧ (∀ j : Nat, j < knV I b n name → 0 ≤ s (12 + name) ∧ (tkM s n m nc j).1 (28 + 5 * s (12 + name) + 2) = 0) := by
  have hn6 : n ≤ 6 := by have := h.1.1.2.2.2.1; omega
  have eN := (h.1.2.2.2.2.2.2.2.2.1 name n0 (by omega)).1
  have hN := (h.1.2.1 name n0 (by omega)).1
  have h7 := h.1.1.1
  have tn : ∀ j : Nat, (tks I b n j).1 (b + 3) name = s (12 + name) := fun j => by rw [tks_ne I n j (by omega) (by omega) (by omega)]; exact eN
  by_cases st : s (12 + name) < 0
  · have e0 : knV I b n name = 0 := by
      unfold knV
      refine fstF_t (decide_eq_true (fun z => z.1 ?_))
      rw [tn 0]; omega
    rw [e0]
    exact ⟨by omega, Or.inl st, fun j hj => by omega⟩
  -- what a state along the way says
  have at_ : ∀ j : Nat, s 1 + j ≤ 60000 → (knP I b n name j = true ↔ (tkM s n m nc j).1 (28 + 5 * s (12 + name) + 2) = 1) ∧ ((tkM s n m nc j).1 (28 + 5 * s (12 + name) + 2) = 0 ∨ (tkM s n m nc j).1 (28 + 5 * s (12 + name) + 2) = 1) ∧ need (tkM s n m nc j).1 (s (12 + name)) ∧ (tks I b n j).1 b 1 = (tkM s n m nc j).1 1 ∧ (tkM s n m nc j).1 0 = s 0 := by
    intro j hj
    obtain ⟨r, e2, e3, e5, e6, e7, e8⟩ := tks_R h hn hm hc j hj
    have en := (r.1.2.2.2.2.2.2.2.2.1 name n0 (by omega)).1
    rw [tn j] at en
    have nd : need (tkM s n m nc j).1 (s (12 + name)) := Or.inl ⟨name, n0, by omega, en.symm⟩
    have z0 := e8 0 (by omega) (by omega) (by omega) (by omega)
    have ki := known_iff r (c := s (12 + name)) (by omega) (by rw [z0]; exact hN.2) nd
    have t1 : (tks I b n j).1 b 1 = (tkM s n m nc j).1 1 := r.1.2.2.2.2.2.2.2.1.2.1
    refine ⟨?_, ki.2, nd, t1, z0⟩
    unfold knP
    rw [decide_eq_true_eq, tn j, t1]
    have k1 : kOf ((tks I b n j).1 (b + 7)) (s (12 + name)) = (tks I b n j).1 (b + 7) (s (12 + name)) := by unfold kOf; rw [if_pos (by omega)]
    rw [k1, ← ki.1]
    constructor
    · intro z
      refine Classical.byContradiction (fun q => z ⟨by omega, q⟩)
    · rintro z ⟨_, y⟩; exact y z
  obtain ⟨J, j1, j2⟩ := idle_ex 139 I s n h hn (by omega) (fun hp => by have := m0_rng h (by omega); omega)
  have ex : knP I b n name (J + 9) = true := by
    obtain ⟨r, e2, e3, e5, e6, e7, e8⟩ := tks_R h hn hm hc J (by omega)
    obtain ⟨q1, q2, q3, q4, q5⟩ := at_ J (by omega)
    have hJ := at_ (J + 9) (by omega)
    rw [hJ.1]
    have r9 := (tks_R h hn hm hc (J + 9) (by omega))
    have ki := known_iff r9.1 (c := s (12 + name)) (by omega) (by rw [hJ.2.2.2.2]; exact hN.2) hJ.2.2.1
    refine ki.1.mp ?_
    rw [tks_add, j2, (idle_tick _ _ 9).2, r9.2.2.2.2.1]
    have c := (r.1.2.2.2.2.2.2.2.2.2.2.2.1 (s (12 + name)) (by omega) (by rw [q5]; exact hN.2) q3).2
    have s30 : (tkM s n m nc J).1 3 = 0 := by rw [e3, ← e2, j2]; rfl
    rcases c with ⟨⟨k, k0, k1, _⟩, _⟩ | ⟨_, _, c⟩
    · omega
    · push_cast
      omega
  obtain ⟨p1, p2, p3, p4⟩ := fstF_spec (p := knP I b n name) 1000 0 ⟨J + 9, by omega, by omega, ex⟩
  change knP I b n name (knV I b n name) = true at p1
  have le : knV I b n name ≤ J + 9 := by
    refine Classical.byContradiction (fun q => ?_)
    have := p4 (J + 9) (by omega) (by omega : J + 9 < knV I b n name)
    rw [ex] at this; cases this
  refine ⟨by omega, Or.inr ?_, fun j hj => ⟨by omega, ?_⟩⟩
  · have := (at_ (knV I b n name) (by omega)).1.mp p1
    omega
  · obtain ⟨q1, q2, _⟩ := at_ j (by omega)
    have := p4 j (by omega) hj
    rcases q2 with z | z
    · exact z
    · rw [q1.mpr z] at this; cases this
