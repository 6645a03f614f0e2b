/-! ===== the mathematics: values are put, names sit down ===== -/
theorem heads_Rg {I J : mIt} {b : Nat} {s t : Int → Int} (h : Rg (s 1) (s 1) (fun k => k) I b s) (hJ : ∀ y : Nat, y ≠ b → J y = I y) (ht : ∀ i : Int, i < 4 ∨ 7 < i → t i = s i) (j0 : J b 0 = I b 0) (j1 : J b 1 = I b 1) (j3 : J b 3 = t 5) (j6 : J b 6 = I b 6) (j5 : J b 5 - t 7 = I b 5 - s 7) :
    Rg (t 1) (t 1) (fun k => k) J b t ∧ ∀ c, need t c ↔ need s c := by
  obtain ⟨hH, hN, hM, hO, hQ, hW, hV, eH, eN, eM, eO, eC, eD, hR⟩ := h
  have h7 := hH.1
  have nd : ∀ c, need t c ↔ need s c := need_congr (fun k _ _ => ht _ (by omega)) (ht 2 (by omega)) (ht 3 (by omega)) (fun i _ => ht i (by omega))
  have od : ∀ c, ordP t c ↔ ordP s c := fun c => (pin_congr (ht 2 (by omega)) (ht 3 (by omega)) (fun i _ => ht i (by omega)) c).2
  obtain ⟨kH, kM, kO, kQ, kE, kEM, kEO⟩ := keepMO (J := J) (t := t) hH hM hO hQ eH eM eO (fun i _ => ht i (by omega)) ⟨ht _ (by omega), ht _ (by omega), ht _ (by omega), ht _ (by omega), ht _ (by omega), ht _ (by omega), ht _ (by omega), ht _ (by omega)⟩ (fun y q _ _ _ _ _ => hJ y q) ⟨j0, j1, j3, j6⟩
  have g0 := ht 0 (by omega)
  refine ⟨⟨kH, ?_, kM, kO, kQ, ?_, ?_, kE, ?_, kEM, kEO, ?_, ?_, ?_⟩, nd⟩
  · intro k a1 a2
    rw [g0, ht _ (by omega), ht _ (by omega)]
    exact hN k a1 a2
  · intro c a1 a2
    rw [g0] at a2
    rw [ht _ (by omega), nd c]
    exact hW c a1 a2
  · intro c a1 a2
    rw [ht _ (by omega)]
    exact hV c a1 a2
  · intro k a1 a2
    rw [ht _ (by omega), ht _ (by omega), hJ (b + 3) (by omega), hJ (b + 4) (by omega)]
    exact eN k a1 a2
  · intro c a1 a2 a3
    rw [g0] at a2
    have r := eC c a1 a2 ((nd c).mp a3)
    unfold chR at *
    rw [hJ (b + 8) (by omega), hJ (b + 6) (by omega), hJ (b + 7) (by omega), ht (28 + 5 * c + 4) (by omega), ht (28 + 5 * c + 3) (by omega), ht (28 + 5 * c + 2) (by omega), ht (28 + 5 * c + 1) (by omega), ht 1 (by omega), od c]
    exact ⟨by have := r.1; omega, r.2⟩
  · intro k a1 a2
    rw [ht 3 (by omega)] at a2
    have q := eD k a1 a2
    have o := hO k a1 a2
    unfold orR at *
    rw [hJ (b + 6) (by omega), hJ (b + 7) (by omega), ht (111 + 7 * k + 4) (by omega), ht (111 + 7 * k + 1) (by omega), ht (111 + 7 * k + 2) (by omega), ht (111 + 7 * k + 3) (by omega), ht (111 + 7 * k + 0) (by omega), ht (28 + 5 * s (111 + 7 * k + 2) + 2) (by omega), ht (28 + 5 * s (111 + 7 * k + 3) + 2) (by omega), ht 1 (by omega)]
    exact q
  · intro c a1 a2
    rw [hJ (b + 6) (by omega), hJ (b + 7) (by omega)]
    exact hR c a1 a2
theorem heads_RR {I J : mIt} {b : Nat} {s t : Int → Int} (h : RR I b s) (hJ : ∀ y : Nat, y ≠ b → J y = I y) (ht : ∀ i : Int, i < 4 ∨ 7 < i → t i = s i) (j0 : J b 0 = I b 0) (j1 : J b 1 = I b 1) (j3 : J b 3 = t 5) (j6 : J b 6 = I b 6) (j5 : J b 5 - t 7 = I b 5 - s 7) (j2 : J b 2 = t 4) (j4 : J b 4 = t 6) : RR J b t := by
  obtain ⟨hg, hX, hz, hd, hsat⟩ := h
  obtain ⟨kg, nd⟩ := heads_Rg hg hJ ht j0 j1 j3 j6 j5
  refine ⟨kg, fun c a1 a2 a3 => ?_, ?_, j2, j4⟩
  · rw [ht 0 (by omega)] at a2
    rw [ht _ (by omega)]
    exact hX c a1 a2 (fun z => a3 ((nd c).mpr z))
  · rw [hJ (b + 9) (by omega), ht 3 (by omega)]; exact hz
theorem heads_RX {x : Int} {I J : mIt} {b : Nat} {s t : Int → Int} (h : RX x I b s) (hJ : ∀ y : Nat, y ≠ b → J y = I y) (ht : ∀ i : Int, i < 4 ∨ 7 < i → t i = s i) (j0 : J b 0 = I b 0) (j1 : J b 1 = I b 1) (j3 : J b 3 = t 5) (j6 : J b 6 = I b 6) (j5 : J b 5 - t 7 = I b 5 - s 7) (j2 : J b 2 = t 4) (j4 : J b 4 = t 6) : RX x J b t := by
  obtain ⟨hg, hx, hnx, hX, hz, hd, hsat⟩ := h
  obtain ⟨kg, nd⟩ := heads_Rg hg hJ ht j0 j1 j3 j6 j5
  refine ⟨kg, by rw [ht 0 (by omega)]; exact hx, fun z => hnx ((nd x).mp z), fun c a1 a2 a3 a4 => ?_, ?_, j2, j4⟩
  · rw [ht 0 (by omega)] at a2
    rw [ht _ (by omega)]
    exact hX c a1 a2 a3 (fun z => a4 ((nd c).mpr z))
  · rw [hJ (b + 9) (by omega), ht 3 (by omega)]; exact hz
theorem turn_R {I : mIt} {b : Nat} {s : Int → Int} (h : RR I b s) : RR (mUp I b 5 (I b 5 + 1)) b (fset s 7 (s 7 + 1)) := by
  have eH := h.1.2.2.2.2.2.2.2.1
  have e := h.2.2.2
  exact heads_RR h (fun y q => mUp_ne _ _ _ q) (fun i q => fset_ne _ _ (by omega)) (by rw [mUp_at, fset_ne _ _ (by omega)]) (by rw [mUp_at, fset_ne _ _ (by omega)]) (by rw [mUp_at, fset_ne _ _ (by omega), fset_ne _ _ (by omega)]; exact eH.2.2.1) (by rw [mUp_at, fset_ne _ _ (by omega)]) (by rw [mUp_at, fset_at, fset_at]; omega) (by rw [mUp_at, fset_ne _ _ (by omega), fset_ne _ _ (by omega)]; exact e.1) (by rw [mUp_at, fset_ne _ _ (by omega), fset_ne _ _ (by omega)]; exact e.2)
theorem rdQ_same {I : mIt} {b : Nat} {s : Int → Int} {one other : Int} (hH : IvH s) (hN : IvN s) (eN : EqN I b s) (h0 : 0 ≤ one) (h1 : one ≤ 7) (g0 : 0 ≤ other) (g1 : other ≤ 7) : rdQ I b s one other one other := by
  intro j hj
  have h7 := hH.1
  rw [csetOf_bt hj (fun a1 a2 => by have := hN one a1 a2; rw [(eN one a1 a2).1]; omega), csetOf_bt hj (fun a1 a2 => by have := hN other a1 a2; rw [(eN other a1 a2).1]; omega), (eN one h0 (by omega)).1, (eN other g0 (by omega)).1]
  constructor
  · rintro (⟨_, _, q⟩ | ⟨_, _, q⟩)
    · exact ⟨h0, Or.inl q⟩
    · exact ⟨h0, Or.inr q⟩
  · rintro ⟨_, q | q⟩
    · exact Or.inl ⟨h0, by omega, q⟩
    · exact Or.inr ⟨g0, by omega, q⟩
theorem rdQ_none {I : mIt} {b : Nat} {s : Int → Int} {one other o' p' : Int} (h1 : csetOf (I (b + 3)) one = 0) (h2 : csetOf (I (b + 3)) other = 0) (ho : o' < 0) : rdQ I b s one other o' p' := by
  intro j hj
  rw [h1, h2, bt_zero j hj]
  constructor
  · rintro (q | q) <;> cases q
  · rintro ⟨q, _⟩; omega
theorem csetOf_m (f : Int → Int) : csetOf f (-1) = 0 := by unfold csetOf; rw [if_pos (by omega)]
theorem csetOf_st {f : Int → Int} {n : Int} (h : f n = -1) : csetOf f n = 0 := by unfold csetOf; rw [if_pos (by omega)]
/-- the seat, on both sides -/
def seOk (x : Int) (I : mIt) (b n mc nc : Nat) (s : Int → Int) (one other one' other' : Int) : Prop := (0 ≤ x ∧ x < s 0) ∧ (seatV I b n mc nc one other = x ∧ cfV s n mc nc one' other' = x) ∧ RX x (seatP I b n mc nc one other) b (cfS s n mc nc one' other') ∧ ¬ pinP s x ∧ ¬ (0 ≤ one' ∧ (s (12 + one') = x ∨ s (12 + other') = x)) ∧
  (∀ k : Int, 0 ≤ k → k < 8 → s (12 + k) ≠ x → cfS s n mc nc one' other' (12 + k) = s (12 + k) ∧ cfS s n mc nc one' other' (20 + k) = s (20 + k))
theorem seat_R {I : mIt} {b n mc nc : Nat} {s : Int → Int} {one other one' other' : Int} (h : RR I b s) (hn : s 3 = n) (hm : s 2 = mc) (hc : s 0 = nc) (hq : rdQ I b s one other one' other') (hb : 0 ≤ one' → one' ≤ 7 ∧ 0 ≤ other' ∧ other' ≤ 7) :
    (seatV I b n mc nc one other = -2 ∧ cfV s n mc nc one' other' = -4) ∨ ∃ x : Int, seOk x I b n mc nc s one other one' other' := by
  rcases seat_eq h hn hm hc hq with q | ⟨x, x0, x1, e1, e2, ⟨f1, f2, f3⟩ | ⟨f1, f2, f3⟩⟩
  · exact Or.inl q
  · refine Or.inr ⟨x, ⟨x0, x1⟩, ⟨e1, e2⟩, ?_, fun z => f1 (Or.inr z), ?_, ?_⟩
    · rw [f2, f3]; exact free_R h x0 x1 f1
    · rintro ⟨o0, q⟩
      have hb' := hb o0
      rcases q with q | q
      · exact f1 (Or.inl ⟨one', o0, by omega, q⟩)
      · exact f1 (Or.inl ⟨other', by omega, by omega, q⟩)
    · intro k _ _ _; rw [f3]; exact ⟨rfl, rfl⟩
  · refine Or.inr ⟨x, ⟨x0, x1⟩, ⟨e1, e2⟩, ?_, f1.2.1, f1.2.2.2, ?_⟩
    · rw [f2, f3]; exact sent_R h x0 x1 f1
    · intro k k0 k1 hk
      rw [f3, fset_ne _ _ (by omega), fset_ne _ _ (by omega), (snR_at x0 8 (by omega) k k0 k1).1, (snR_at x0 8 (by omega) k k0 k1).2, if_neg (fun z => hk z.2), if_neg (fun z => hk z.2)]
      exact ⟨rfl, rfl⟩
theorem gtS_plT {S : Int → Int} {x name v : Int} : ikS (gtS S x name) x v = plT S name x v 1 (-1) := by
  funext i
  simp only [ikS, gtS, plT, fset]
  omega
/-- put -/
theorem put_R {I : mIt} {b n mc nc : Nat} {s : Int → Int} (h : RR I b s) (hn : s 3 = n) (hm : s 2 = mc) (hc : s 0 = nc) (name v : Int) (hok : (0 ≤ name ∧ name ≤ 7) ∧ (0 ≤ v ∧ v ≤ 9999)) :
    (pvV I b n mc nc name v = -2 ∧ pmC s n mc nc name = -4) ∨ (0 ≤ pmC s n mc nc name ∧ pvV I b n mc nc name v = pmC s n mc nc name ∧ RR (pvI I b n mc nc name v) b (ikS (pmX s n mc nc name) (pmC s n mc nc name) v)) := by
  have hT := h.1.1.2.1
  have h1 := giveUp_R (turn_R h) (n := n) (m := mc) (nc := nc) (name := name) (by rw [fset_ne _ _ (by omega)]; exact hn) (by rw [fset_ne _ _ (by omega)]; exact hm) (by rw [fset_ne _ _ (by omega)]; exact hc) hok.1.1 hok.1.2
  have lo : ∀ i : Int, i < 12 → i ≠ 7 → pmG s n mc nc name i = s i := fun i a1 a2 => by
    unfold pmG; rw [guM_lo _ _ _ _ _ a1 hok.1.1, fset_ne _ _ a2]
  have st : pmG s n mc nc name (12 + name) = -1 := by
    unfold pmG guM; rw [frM_nei nc (fun c _ _ => by omega), fset_at]
  unfold pvV pvI
  rw [if_pos hok, if_pos hok]
  change RR (mUp (mUp I b 5 (I b 5 + 1)) (b + 3) name (-1)) b (pmG s n mc nc name) at h1
  rcases seat_R h1 (n := n) (mc := mc) (nc := nc) (one := -1) (other := -1) (one' := -1) (other' := -1) (by rw [lo 3 (by omega) (by omega)]; exact hn) (by rw [lo 2 (by omega) (by omega)]; exact hm) (by rw [lo 0 (by omega) (by omega)]; exact hc) (rdQ_none (csetOf_m _) (csetOf_m _) (by omega)) (by omega) with q | ⟨x, x0, ⟨e1, e2⟩, hx, hp, hr, hk⟩
  · exact Or.inl q
  · right
    have e3 : pmC s n mc nc name = x := e2
    rw [e3]
    refine ⟨x0.1, e1, ?_⟩
    have sx := hk name hok.1.1 (by omega) (by rw [st]; omega)
    refine placed_R (k2 := 1) (at_ := -1) hx hok.1.1 hok.1.2 (by rw [sx.1]; exact st) (v := v) (kn := I b 1) ?_ ?_ hok.2.1 hok.2.2 (Or.inl ⟨rfl, rfl, ?_, ?_⟩)
    · unfold seatI
      rw [e1, if_neg (by omega), seatP_b _ _ _ _ _ _ _ (by omega)]
    · unfold pmX getS
      rw [e2, if_neg (by omega), gtS_plT]
    · rw [h.1.2.2.2.2.2.2.2.1.2.1]; exact hT.1
    · have := h.1.2.2.2.2.2.2.2.1.2.1
      rw [cfS_ne _ _ _ _ _ _ (by omega) (by omega), lo 1 (by omega) (by omega)]; omega
