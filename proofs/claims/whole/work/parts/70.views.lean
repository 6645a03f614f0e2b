/-! ===== the mathematics: rooms are copied; bounds ===== -/
/-- all of a room that its calls look at -/
def VE (I : mIt) (r : Nat) (J : mIt) (t : Nat) : Prop := (∀ k : Int, 0 ≤ k → k < 7 → J t k = I r k) ∧ (∀ k : Int, 0 ≤ k → k < 4 → J (t + 1) k = I (r + 1) k) ∧ (∀ k : Int, 0 ≤ k → k < 8 → J (t + 3) k = I (r + 3) k ∧ J (t + 4) k = I (r + 4) k) ∧ (∀ k : Int, 0 ≤ k → k < 7 → J (t + 6) k = I (r + 6) k ∧ J (t + 7) k = I (r + 7) k ∧ J (t + 8) k = I (r + 8) k) ∧ J (t + 9) 0 = I (r + 9) 0 ∧
  (∀ k : Int, 0 ≤ k → k < 6 → J (t + 10) k = I (r + 10) k ∧ J (t + 11) k = I (r + 11) k ∧ J (t + 12) k = I (r + 12) k ∧ J (t + 13) k = I (r + 13) k ∧ J (t + 14) k = I (r + 14) k) ∧ (∀ m : Int, 0 ≤ m → m < 3 → ∀ k : Int, 0 ≤ k → k < 8 → J (mC t m) k = I (mC r m) k ∧ J (mH t m) k = I (mH r m) k)
theorem VE_same {I J : mIt} {r : Nat} (h : ∀ x : Nat, r ≤ x → x < r + 25 → J x = I x) : VE I r J r := by
  refine ⟨fun k _ _ => by rw [h r (by omega) (by omega)], fun k _ _ => by rw [h _ (by omega) (by omega)], fun k _ _ => ⟨by rw [h _ (by omega) (by omega)], by rw [h _ (by omega) (by omega)]⟩, fun k _ _ => ⟨by rw [h _ (by omega) (by omega)], by rw [h _ (by omega) (by omega)], by rw [h _ (by omega) (by omega)]⟩, by rw [h _ (by omega) (by omega)], fun k _ _ => ⟨by rw [h _ (by omega) (by omega)], by rw [h _ (by omega) (by omega)], by rw [h _ (by omega) (by omega)], by rw [h _ (by omega) (by omega)], by rw [h _ (by omega) (by omega)]⟩, fun m a1 a2 k _ _ => ⟨?_, ?_⟩⟩
  · rw [h _ (by unfold mC; omega) (by unfold mC; omega)]
  · rw [h _ (by unfold mH; omega) (by unfold mH; omega)]
theorem VE_RR {I J : mIt} {r t : Nat} {s : Int → Int} (v : VE I r J t) (h : RR I r s) : RR J t s := by
  obtain ⟨v0, v1, v3, v6, v9, v10, vM⟩ := v
  obtain ⟨⟨hH, hN, hM, hO, hQ, hW, hV, eH, eN, eM, eO, eC, eD, hR⟩, hX, hz, hd, hsat⟩ := h
  have h7 := hH.1
  have h6 := hH.2.2.2.1
  have h3 := hH.2.2.1
  refine ⟨⟨hH, hN, hM, hO, hQ, hW, hV, ?_, ?_, ?_, ?_, ?_, ?_, ?_⟩, hX, ?_, ?_, ?_⟩
  · unfold EqH at *
    rw [v0 0 (by omega) (by omega), v0 1 (by omega) (by omega), v0 3 (by omega) (by omega), v0 6 (by omega) (by omega), v1 0 (by omega) (by omega), v1 1 (by omega) (by omega), v1 2 (by omega) (by omega), v1 3 (by omega) (by omega)]
    exact eH
  · intro k a1 a2
    rw [(v3 k a1 a2).1, (v3 k a1 a2).2]; exact eN k a1 a2
  · intro m a1 a2 k a3 a4
    rw [(vM m a1 (by omega) k a3 a4).1, (vM m a1 (by omega) k a3 a4).2]; exact eM m a1 a2 k a3 a4
  · intro k a1 a2
    have e := v10 k a1 (by omega)
    simp only
    rw [e.1, e.2.1, e.2.2.1, e.2.2.2.1, e.2.2.2.2]; exact eO k a1 a2
  · intro c a1 a2 a3
    have q := eC c a1 a2 a3
    have e := v6 c a1 (by omega)
    unfold chR at *
    rw [e.1, e.2.1, e.2.2, v0 5 (by omega) (by omega)]; exact q
  · intro k a1 a2
    have q := eD k a1 a2
    have o := hO k a1 a2
    unfold orR at *
    rw [(v6 (s (111 + 7 * k + 1)) (by omega) (by omega)).1, (v6 (s (111 + 7 * k + 1)) (by omega) (by omega)).2.1, (v6 (s (111 + 7 * k + 2)) (by omega) (by omega)).1, (v6 (s (111 + 7 * k + 3)) (by omega) (by omega)).1]; exact q
  · intro c a1 a2
    rw [(v6 c a1 a2).1, (v6 c a1 a2).2.1]; exact hR c a1 a2
  · rw [v9]; exact hz
  · rw [v0 2 (by omega) (by omega)]; exact hd
  · rw [v0 4 (by omega) (by omega)]; exact hsat
theorem VE_rb (I : mIt) {t r : Nat} (hd : t + 25 ≤ r ∨ r + 25 ≤ t) : VE I r (rbI I t r) t ∧ (∀ x : Nat, x < t ∨ t + 25 ≤ x → rbI I t r x = I x) := by
  have mCe : ∀ (b : Nat) (j : Nat), mC b (j : Int) = b + 17 + 3 * j := fun b j => by unfold mC; omega
  have mHe : ∀ (b : Nat) (j : Nat), mH b (j : Int) = b + 18 + 3 * j := fun b j => by unfold mH; omega
  -- outside the room's marks
  have lo : ∀ j : Nat, j ≤ 3 → ∀ x : Nat, (x < t + 17 ∨ t + 16 + 3 * j ≤ x ∧ t + 17 ≤ x ∨ x = t + 19 ∨ x = t + 22) → rbL I t r j x = rb5 I t r x := by
    intro j
    induction j with
    | zero => intro _ x _; rfl
    | succ j ih =>
      intro hj x hx
      rw [rbL, cpy_ne _ _ _ (by rw [mHe]; omega), cpy_ne _ _ _ (by rw [mCe]; omega)]
      exact ih (by omega) x (by omega)
  have r5 : ∀ x : Nat, (x < t ∨ x = t + 2 ∨ x = t + 5 ∨ t + 14 < x) → rb5 I t r x = I x := fun x hx => by
    unfold rb5
    rw [cpy_ne _ _ _ (by omega), cpy_ne _ _ _ (by omega), cpy_ne _ _ _ (by omega), cpy_ne _ _ _ (by omega), cpy_ne _ _ _ (by omega), mUp_ne _ _ _ (by omega)]
    unfold rb4
    rw [cpy_ne _ _ _ (by omega), cpy_ne _ _ _ (by omega), cpy_ne _ _ _ (by omega)]
    unfold rb3
    rw [cpy_ne _ _ _ (by omega), cpy_ne _ _ _ (by omega), cpy_ne _ _ _ (by omega)]
    unfold rb1
    rw [mUp_ne _ _ _ (by omega), mUp_ne _ _ _ (by omega), mUp_ne _ _ _ (by omega), mUp_ne _ _ _ (by omega), mUp_ne _ _ _ (by omega), mUp_ne _ _ _ (by omega), mUp_ne _ _ _ (by omega)]
  have mk : ∀ j : Nat, j ≤ 3 → ∀ m : Nat, m < j → ∀ k : Int, 0 ≤ k → k < 8 → rbL I t r j (mC t m) k = I (mC r m) k ∧ rbL I t r j (mH t m) k = I (mH r m) k := by
    intro j
    induction j with
    | zero => intro _ m hm; omega
    | succ j ih =>
      intro hj m hm k k0 k1
      rw [rbL]
      by_cases q : m = j
      · subst q
        rw [cpy_ne _ _ _ (by rw [mCe, mHe]; omega), cpy_in _ _ k0 (by omega), cpy_in _ _ k0 (by omega)]
        exact ⟨rfl, rfl⟩
      · rw [cpy_ne _ _ _ (by rw [mCe, mHe]; omega), cpy_ne _ _ _ (by rw [mCe, mCe]; omega), cpy_ne _ _ _ (by rw [mHe, mHe]; omega), cpy_ne _ _ _ (by rw [mHe, mCe]; omega)]
        exact ih (by omega) m (by omega) k k0 k1
  have L : ∀ x : Nat, (x < t + 17 ∨ t + 25 ≤ x ∨ x = t + 19 ∨ x = t + 22) → rbI I t r x = rb5 I t r x := fun x hx => lo 3 (by omega) x (by omega)
  have h1 : rb5 I t r t = fset (fset (fset (fset (fset (fset (fset (I t) 0 (I r 0)) 1 (I r 1)) 2 (I r 2)) 3 (I r 3)) 4 (I r 4)) 5 (I r 5)) 6 (I r 6) := by
    unfold rb5 rb4 rb3 rb1
    rw [cpy_ne _ _ _ (by omega), cpy_ne _ _ _ (by omega), cpy_ne _ _ _ (by omega), cpy_ne _ _ _ (by omega), cpy_ne _ _ _ (by omega), mUp_ne _ _ _ (by omega), cpy_ne _ _ _ (by omega), cpy_ne _ _ _ (by omega), cpy_ne _ _ _ (by omega), cpy_ne _ _ _ (by omega), cpy_ne _ _ _ (by omega), cpy_ne _ _ _ (by omega), mUp_at, mUp_at, mUp_at, mUp_at, mUp_at, mUp_at, mUp_at]
  refine ⟨⟨?_, ?_, ?_, ?_, ?_, ?_, ?_⟩, ?_⟩
  · intro k a1 a2
    rw [L t (by omega), h1]
    rcases (by omega : k = 0 ∨ k = 1 ∨ k = 2 ∨ k = 3 ∨ k = 4 ∨ k = 5 ∨ k = 6) with z | z | z | z | z | z | z <;> subst z <;> rfl
  · intro k a1 a2
    rw [L _ (by omega)]
    unfold rb5 rb4 rb3
    rw [cpy_ne _ _ _ (by omega), cpy_ne _ _ _ (by omega), cpy_ne _ _ _ (by omega), cpy_ne _ _ _ (by omega), cpy_ne _ _ _ (by omega), mUp_ne _ _ _ (by omega), cpy_ne _ _ _ (by omega), cpy_ne _ _ _ (by omega), cpy_ne _ _ _ (by omega), cpy_ne _ _ _ (by omega), cpy_ne _ _ _ (by omega), cpy_in _ _ a1 (by omega)]
  · intro k a1 a2
    rw [L _ (by omega), L _ (by omega)]
    unfold rb5 rb4 rb3
    constructor
    · rw [cpy_ne _ _ _ (by omega), cpy_ne _ _ _ (by omega), cpy_ne _ _ _ (by omega), cpy_ne _ _ _ (by omega), cpy_ne _ _ _ (by omega), mUp_ne _ _ _ (by omega), cpy_ne _ _ _ (by omega), cpy_ne _ _ _ (by omega), cpy_ne _ _ _ (by omega), cpy_ne _ _ _ (by omega), cpy_in _ _ a1 (by omega)]
    · rw [cpy_ne _ _ _ (by omega), cpy_ne _ _ _ (by omega), cpy_ne _ _ _ (by omega), cpy_ne _ _ _ (by omega), cpy_ne _ _ _ (by omega), mUp_ne _ _ _ (by omega), cpy_ne _ _ _ (by omega), cpy_ne _ _ _ (by omega), cpy_ne _ _ _ (by omega), cpy_in _ _ a1 (by omega)]
  · intro k a1 a2
    rw [L _ (by omega), L _ (by omega), L _ (by omega)]
    unfold rb5 rb4
    refine ⟨?_, ?_, ?_⟩
    · rw [cpy_ne _ _ _ (by omega), cpy_ne _ _ _ (by omega), cpy_ne _ _ _ (by omega), cpy_ne _ _ _ (by omega), cpy_ne _ _ _ (by omega), mUp_ne _ _ _ (by omega), cpy_ne _ _ _ (by omega), cpy_ne _ _ _ (by omega), cpy_in _ _ a1 (by omega)]
    · rw [cpy_ne _ _ _ (by omega), cpy_ne _ _ _ (by omega), cpy_ne _ _ _ (by omega), cpy_ne _ _ _ (by omega), cpy_ne _ _ _ (by omega), mUp_ne _ _ _ (by omega), cpy_ne _ _ _ (by omega), cpy_in _ _ a1 (by omega)]
    · rw [cpy_ne _ _ _ (by omega), cpy_ne _ _ _ (by omega), cpy_ne _ _ _ (by omega), cpy_ne _ _ _ (by omega), cpy_ne _ _ _ (by omega), mUp_ne _ _ _ (by omega), cpy_in _ _ a1 (by omega)]
  · rw [L _ (by omega)]
    unfold rb5
    rw [cpy_ne _ _ _ (by omega), cpy_ne _ _ _ (by omega), cpy_ne _ _ _ (by omega), cpy_ne _ _ _ (by omega), cpy_ne _ _ _ (by omega), mUp_at, fset_at]
  · intro k a1 a2
    rw [L _ (by omega), L _ (by omega), L _ (by omega), L _ (by omega), L _ (by omega)]
    unfold rb5
    refine ⟨?_, ?_, ?_, ?_, ?_⟩
    · rw [cpy_ne _ _ _ (by omega), cpy_ne _ _ _ (by omega), cpy_ne _ _ _ (by omega), cpy_ne _ _ _ (by omega), cpy_in _ _ a1 (by omega)]
    · rw [cpy_ne _ _ _ (by omega), cpy_ne _ _ _ (by omega), cpy_ne _ _ _ (by omega), cpy_in _ _ a1 (by omega)]
    · rw [cpy_ne _ _ _ (by omega), cpy_ne _ _ _ (by omega), cpy_in _ _ a1 (by omega)]
    · rw [cpy_ne _ _ _ (by omega), cpy_in _ _ a1 (by omega)]
    · rw [cpy_in _ _ a1 (by omega)]
  · intro m a1 a2 k a3 a4
    have := mk 3 (Nat.le_refl _) m.toNat (by omega) k a3 a4
    rw [show ((m.toNat : Nat) : Int) = m by omega] at this
    exact this
  · intro x hx
    rw [L x (by omega), r5 x (by omega)]
/-- a state in its bounds -/
def GS (N : Int) (I : mIt) (b : Nat) (s : Int → Int) : Prop := RR I b s ∧ s 1 ≤ 50000 ∧ Ct N I b s
theorem GS_VE {N : Int} {I J : mIt} {r t : Nat} {s : Int → Int} (v : VE I r J t) (h : GS N I r s) : GS N J t s := by
  refine ⟨VE_RR v h.1, h.2.1, ?_⟩
  have := h.2.2
  unfold Ct at *
  rw [v.1 2 (by omega) (by omega), v.1 3 (by omega) (by omega), v.1 4 (by omega) (by omega), v.1 5 (by omega) (by omega)]
  exact this
theorem GS_row {N : Int} {I : mIt} {b : Nat} {s t : Int → Int} (h : GS N I b s) (ht : ∀ i : Int, 0 ≤ i → i < 153 → t i = s i) : GS N I b t := by
  have h6 := h.1.1.1.2.2.2.1
  refine ⟨slot_R h.1 (fun i a1 a2 => ht i a1 (by omega)), by rw [ht 1 (by omega) (by omega)]; exact h.2.1, ?_⟩
  have := h.2.2
  unfold Ct at *
  rw [ht 7 (by omega) (by omega)]
  exact this
theorem GS_le {N M : Int} {I : mIt} {b : Nat} {s : Int → Int} (h : GS N I b s) (hNM : N ≤ M) : GS M I b s := by
  refine ⟨h.1, h.2.1, ?_⟩
  have := h.2.2
  unfold Ct at *
  omega
theorem RoOK_of {N : Int} {I : mIt} {b : Nat} {s : Int → Int} (h : GS N I b s) (hN : N ≤ 1000000) : RoOK I b ∧ s 3 = (nR I b : Nat) ∧ s 2 = (mR I b : Nat) ∧ s 0 = (cR I b : Nat) := by
  obtain ⟨⟨⟨hH, hN', hM, hO, hQ, hW, hV, eH, eN, eM, eO, eC, eD, hR⟩, hX, hz, hd, hsat⟩, hT, hC⟩ := h
  have h7 := hH.1
  have h6 := hH.2.2.2.1
  have h3 := hH.2.2.1
  have hs := hH.2.2.2.2
  have h1 := hH.2.1
  unfold Ct at hC
  unfold EqH at eH
  have e1 : I (b + 9) 0 = (nR I b : Int) := by unfold nR; omega
  have e2 : I b 6 = (mR I b : Int) := by unfold mR; omega
  have e3 : I b 0 = (cR I b : Int) := by unfold cR; omega
  refine ⟨⟨⟨e1, by omega⟩, ⟨e2, by omega⟩, ⟨e3, by omega⟩, ?_, by omega, ?_⟩, by omega, by omega, by omega⟩
  · unfold Bd
    omega
  · refine ⟨fun c a1 a2 => (hR c a1 a2).1, fun k a1 a2 => ?_⟩
    rw [(eN k a1 a2).2]; exact (hN' k a1 a2).2
