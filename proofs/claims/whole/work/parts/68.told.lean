/-! ===== the mathematics: what is told ===== -/
theorem nmask_cg {f g : Int → Int} {w : Int} : ∀ n : Nat, (∀ k : Int, 0 ≤ k → k < n → f k = g k) → nmask f w n = nmask g w n := by
  intro n
  induction n with
  | zero => intro _; rfl
  | succ n ih => intro h; rw [nmask, nmask, h n (by omega) (by omega), ih (fun k a b => h k a (by omega))]
theorem markOf_R {I : mIt} {b mc : Nat} {s : Int → Int} (h : RR I b s) (hm : s 2 = mc) (m name what : Int) : tmV I b m name what = mkV s mc m name what := by
  obtain ⟨⟨hH, hN, hM, hO, hQ, hW, hV, eH, eN, eM, eO, eC, eD, hR⟩, hX, hz, hd, hsat⟩ := h
  have h3 := hH.2.2.1
  have e6 := eH.2.2.2.1
  by_cases q : (0 ≤ m ∧ m < (mc : Int)) ∧ (0 ≤ name ∧ name ≤ 7) ∧ (0 ≤ what ∧ what ≤ 1)
  · obtain ⟨⟨m0, m1⟩, ⟨n0, n7⟩, w0, w1⟩ := q
    have e := eM m m0 (by omega) name n0 (by omega)
    have r := hM m name m0 (by omega) n0 (by omega)
    have e0 : what = 0 → s (63 + 16 * m + 8 * what + name) = s (63 + 16 * m + name) := fun z => by rw [z]; congr 1; omega
    have e1 : what = 1 → s (63 + 16 * m + 8 * what + name) = s (63 + 16 * m + 8 + name) := fun z => by rw [z]; congr 1
    unfold tmV mkV fnd4
    rw [e.1, e.2]
    repeat' split
    all_goals omega
  · unfold tmV mkV fnd4
    repeat' split
    all_goals omega
/-- the values to come -/
theorem lcA_at {s l : Int → Int} : ∀ nc : Nat, ∀ c : Int, 0 ≤ c → c < nc → lcA s l nc c = s (28 + 5 * c + 1) := by
  intro nc
  induction nc with
  | zero => intro c a b; omega
  | succ nc ih =>
    intro c a b
    rw [lcA]
    by_cases q : c = (nc : Int)
    · rw [q, fset_at]
    · rw [fset_ne _ _ q, ih c a (by omega)]
theorem lc_R {I : mIt} {b n nc : Nat} {s l : Int → Int} (h : RR I b s) (hn : s 3 = n) (hc : s 0 = nc) : ∀ k : Nat, k ≤ n → ∀ c : Int, 0 ≤ c → c < nc → need s c → (∀ j : Int, (k : Int) ≤ j → j < n → c ≠ s (111 + 7 * j + 1)) → lcO s (lcA s l nc) k c = I (b + 6) c := by
  obtain ⟨⟨hH, hN, hM, hO, hQ, hW, hV, eH, eN, eM, eO, eC, eD, hR⟩, hX, hz, hd, hsat⟩ := h
  intro k
  induction k with
  | zero =>
    intro _ c c0 c1 nd hj
    rw [lcO, lcA_at nc c c0 c1]
    rcases (eC c c0 (by omega) nd).2 with q | q
    · obtain ⟨⟨j, j0, j1, f⟩, _⟩ := q
      exact absurd f.symm (hj j (by omega) (by omega))
    · exact q.2.1.symm
  | succ k ih =>
    intro hk c c0 c1 nd hj
    have o := hO k (by omega) (by omega)
    rw [lcO]
    by_cases q : c = s (111 + 7 * (k : Int) + 1)
    · rw [q, fset_at, (eD k (by omega) (by omega)).2]
      have r1 := ih (by omega) (s (111 + 7 * (k : Int) + 2)) (by omega) (by omega) (Or.inr (Or.inr (Or.inl ⟨k, by omega, by omega, Or.inl rfl⟩))) (fun j j0 j1 => (hQ.2.1 k j (by omega) j0 (by omega)).1)
      have r2 := ih (by omega) (s (111 + 7 * (k : Int) + 3)) (by omega) (by omega) (Or.inr (Or.inr (Or.inl ⟨k, by omega, by omega, Or.inr rfl⟩))) (fun j j0 j1 => (hQ.2.1 k j (by omega) j0 (by omega)).2)
      rw [r1, r2]
    · rw [fset_ne _ _ q]
      refine ih (by omega) c c0 c1 nd (fun j j0 j1 => ?_)
      by_cases z : j = (k : Int)
      · rw [z]; exact q
      · exact hj j (by omega) j1
theorem nameOf_R {I : mIt} {b n nc : Nat} {s l : Int → Int} (h : RR I b s) (hn : s 3 = n) (hc : s 0 = nc) (name what : Int) : tnV I b name what = nmV s l n nc name what := by
  have h' := h
  obtain ⟨⟨hH, hN, hM, hO, hQ, hW, hV, eH, eN, eM, eO, eC, eD, hR⟩, hX, hz, hd, hsat⟩ := h
  have h7 := hH.1
  by_cases q : 0 ≤ name ∧ name ≤ 7
  case neg =>
    unfold tnV nmV
    rw [if_pos q]
    split
    · rfl
    · omega
  have e := eN name q.1 (by omega)
  have r := (hN name q.1 (by omega)).1
  by_cases st : s (12 + name) = -1
  · unfold tnV nmV tnX fnd4
    rw [e.1, e.2]
    repeat' split
    all_goals omega
  · have c0 : 0 ≤ s (12 + name) := by omega
    have nd : need s (s (12 + name)) := Or.inl ⟨name, q.1, by omega, rfl⟩
    have kn := known_iff h' c0 r.2 nd
    have k1 : kOf (I (b + 7)) (s (12 + name)) = I (b + 7) (s (12 + name)) := by unfold kOf; rw [if_pos (by omega)]
    have v1 : vOn (I (b + 6)) (s (12 + name)) = I (b + 6) (s (12 + name)) := by unfold vOn; rw [if_pos (by omega)]
    have vv : s (28 + 5 * s (12 + name) + 2) = 1 → I (b + 6) (s (12 + name)) = s (28 + 5 * s (12 + name) + 1) := fun y => by
      rcases (eC _ c0 r.2 nd).2 with p | p
      · omega
      · exact p.2.1
    have ll : lcT s l n nc (s (12 + name)) = I (b + 6) (s (12 + name)) := lc_R h' hn hc n (Nat.le_refl _) _ c0 (by omega) nd (fun j j0 j1 => by omega)
    have nn : nmask (I (b + 3)) (s (12 + name)) 8 = nmask (fun i => s (12 + i)) (s (12 + name)) 8 := nmask_cg 8 (fun k a1 a2 => (eN k a1 (by omega)).1)
    have t1 := eH.2.1
    unfold tnV nmV tnX fnd4
    rw [e.1, e.2, k1, v1, nn, ll, t1]
    repeat' split
    all_goals omega
theorem orderOf_R {I : mIt} {b n : Nat} {s : Int → Int} (h : RR I b s) (hn : s 3 = n) (ix what : Int) : toV I b ix what = orV s n ix what := by
  obtain ⟨⟨hH, hN, hM, hO, hQ, hW, hV, eH, eN, eM, eO, eC, eD, hR⟩, hX, hz, hd, hsat⟩ := h
  have h6 := hH.2.2.2.1
  have hT := hH.2.1
  have h7 := hH.1
  by_cases q : 0 ≤ ix ∧ ix < (n : Int)
  case neg =>
    unfold toV orV
    rw [if_pos (fun z => q ⟨z.1, by omega⟩)]
    split
    · rfl
    · omega
  have e := eO ix q.1 (by omega)
  have o := hO ix q.1 (by omega)
  have d := (eD ix q.1 (by omega)).1
  simp only at e
  have k1 : kOf (I (b + 7)) (s (111 + 7 * ix + 1)) = I (b + 7) (s (111 + 7 * ix + 1)) := by unfold kOf; rw [if_pos (by omega)]
  have w0 : what = 0 → s (111 + 7 * ix + what) = s (111 + 7 * ix + 0) := fun z => by rw [z]
  have w1 : what = 1 → s (111 + 7 * ix + what) = s (111 + 7 * ix + 1) := fun z => by rw [z]
  have w2 : what = 2 → s (111 + 7 * ix + what) = s (111 + 7 * ix + 2) := fun z => by rw [z]
  have w3 : what = 3 → s (111 + 7 * ix + what) = s (111 + 7 * ix + 3) := fun z => by rw [z]
  have t1 := eH.2.1
  unfold toV orV
  rw [e.1, e.2.1, e.2.2.1, e.2.2.2.1, e.2.2.2.2, k1, t1]
  repeat' split
  all_goals omega
theorem cand_none (I : mIt) (b n mc : Nat) : cand I b n mc (-1) (-1) = bAnd (cset (I (b + 3)) 8) (bXor (pinA I b n mc) (-1)) := by
  unfold cand
  rw [csetOf_m]
  have e : bXor (bOr 0 0) (-1) = -1 := by decide
  rw [e]
  unfold bAnd
  rw [Int32.ofInt_toInt, show Int32.ofInt (-1) = -1 from rfl, Int32.and_neg_one]
theorem chairOf_R {I : mIt} {b n mc nc : Nat} {s : Int → Int} (h : RR I b s) (hn : s 3 = n) (hm : s 2 = mc) (hc : s 0 = nc) (ch what : Int) : tcV I b n mc nc ch what = chV s n mc nc ch what := by
  have h' := h
  obtain ⟨⟨hH, hN, hM, hO, hQ, hW, hV, eH, eN, eM, eO, eC, eD, hR⟩, hX, hz, hd, hsat⟩ := h
  have h7 := hH.1
  have hm3 := hH.2.2.1
  by_cases q : (0 ≤ ch ∧ ch < (nc : Int)) ∧ 0 ≤ what ∧ what ≤ 5
  case neg =>
    unfold tcV chV
    rw [if_pos (fun z => q ⟨⟨z.1.1, by omega⟩, z.2⟩)]
    split
    · rfl
    · omega
  obtain ⟨⟨c0, c1⟩, w0, w5⟩ := q
  have tb := tkn_bt (I := I) (b := b) hH hN hO hM eN eO eM hn hm (j := ch.toNat) (by omega)
  have cn : ((ch.toNat : Nat) : Int) = ch := by omega
  have ba := bt_at (tkn I b n mc) ch.toNat (by omega)
  rw [cn] at tb ba
  by_cases nd : need s ch
  case neg =>
    have z : bt (tkn I b n mc) ch.toNat = false := Bool.eq_false_iff.mpr (fun z => nd (tb.mp z))
    rw [z] at ba
    have ba' : bAnd (bShr (tkn I b n mc) ch) 1 = 0 := ba
    have hx := hX ch c0 (by omega) nd
    unfold tcV chV
    rw [if_pos ba', if_pos hx]
    repeat' split
    all_goals omega
  have z : bt (tkn I b n mc) ch.toNat = true := tb.mpr nd
  rw [z] at ba
  have ba' : bAnd (bShr (tkn I b n mc) ch) 1 = 1 := ba
  have hw := (hW ch c0 (by omega)).2 nd
  have kn := known_iff h' c0 (by omega) nd
  have k1 : kOf (I (b + 7)) ch = I (b + 7) ch := by unfold kOf; rw [if_pos (by omega)]
  have v1 : vOn (I (b + 6)) ch = I (b + 6) ch := by unfold vOn; rw [if_pos (by omega)]
  have vv : s (28 + 5 * ch + 2) = 1 → I (b + 6) ch = s (28 + 5 * ch + 1) := fun y => by
    rcases (eC _ c0 (by omega) nd).2 with p | p
    · omega
    · exact p.2.1
  have nn : nmask (I (b + 3)) ch 8 = nmask (fun i => s (12 + i)) ch 8 := nmask_cg 8 (fun k a1 a2 => (eN k a1 (by omega)).1)
  have mm : mkOn (mks I b) ch mc = mkM s ch mc := (mkM_mkOn mc (by omega) (fun i hi k k0 k1 => (eM i (by omega) (by omega) k k0 k1).1)).symm
  have rr : rdrs (I (b + 12)) (I (b + 13)) ch n = rdM s ch n := by
    unfold rdM
    exact rdrs_congr ch n (fun i hi => ⟨(eO i (by omega) (by omega)).2.2.1, (eO i (by omega) (by omega)).2.2.2.1⟩)
  have oo : anyE (I (b + 11)) ch n = ofM s ch n := anyE_congr ch n (fun i hi => (eO i (by omega) (by omega)).2.1)
  have ll : (luF (bAnd (cset (I (b + 3)) 8) (bXor (pinA I b n mc) (-1))) (s 1) (I (b + 7)) (I (b + 8)) nc = ch) ↔ (nxM s n mc (-1) (-1) nc = ch) := by
    have e := seC1_eq (one := -1) (other := -1) (one' := -1) (other' := -1) h' hn hm (rdQ_none (csetOf_m _) (csetOf_m _) (by omega)) nc (by omega)
    rw [cand_none, eH.2.1] at e
    rcases e with ⟨e1, e2⟩ | ⟨x, e1, e2, _⟩
    · rw [e1, e2]; omega
    · rw [e1, e2]
  have t1 := eH.2.1
  unfold tcV chV
  rw [k1, v1, nn, mm, rr, oo, t1]
  simp only [ll]
  rw [if_neg (show ¬ bAnd (bShr (tkn I b n mc) ch) 1 = 0 by omega), if_neg (show ¬ s (28 + 5 * ch + 0) = 0 by omega)]
  repeat' split
  all_goals omega
