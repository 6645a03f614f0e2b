/-! ===== the mathematics: giving up, sending out, placing ===== -/
theorem pin_congr {s t : Int → Int} (h2 : t 2 = s 2) (h3 : t 3 = s 3) (h : ∀ i : Int, 63 ≤ i → t i = s i) (c : Int) : (pinP t c ↔ pinP s c) ∧ (ordP t c ↔ ordP s c) := by
  have e1 : mrkP t c ↔ mrkP s c := by
    unfold mrkP
    rw [h2]
    constructor
    · rintro ⟨m, a, b, k, d, e, f⟩; exact ⟨m, a, b, k, d, e, by rw [← h _ (by omega)]; exact f⟩
    · rintro ⟨m, a, b, k, d, e, f⟩; exact ⟨m, a, b, k, d, e, by rw [h _ (by omega)]; exact f⟩
  have e2 : redP t c ↔ redP s c := by
    unfold redP
    rw [h3]
    constructor
    · rintro ⟨k, a, b, f⟩; exact ⟨k, a, b, by rw [← h _ (by omega), ← h (111 + 7 * k + 3) (by omega)]; exact f⟩
    · rintro ⟨k, a, b, f⟩; exact ⟨k, a, b, by rw [h _ (by omega), h (111 + 7 * k + 3) (by omega)]; exact f⟩
  have e3 : ordP t c ↔ ordP s c := by
    unfold ordP
    rw [h3]
    constructor
    · rintro ⟨k, a, b, f⟩; exact ⟨k, a, b, by rw [← h _ (by omega)]; exact f⟩
    · rintro ⟨k, a, b, f⟩; exact ⟨k, a, b, by rw [h _ (by omega)]; exact f⟩
  exact ⟨by unfold pinP; rw [e1, e2, e3], e3⟩
/-- what a change of names, homes and chairs leaves -/
theorem keepMO {I J : mIt} {b : Nat} {s t : Int → Int} {ph : Int → Int} (hH : IvH s) (hM : IvM s) (hO : IvO s) (hQ : IvQ s) (eH : EqH I b s) (eM : EqM I b s) (eO : EqO I b s ph)
    (hs : ∀ i : Int, 63 ≤ i → t i = s i) (h0 : t 0 = s 0 ∧ t 1 = s 1 ∧ t 2 = s 2 ∧ t 3 = s 3 ∧ t 8 = s 8 ∧ t 9 = s 9 ∧ t 10 = s 10 ∧ t 11 = s 11)
    (hJ : ∀ x, x ≠ b → x ≠ b + 3 → x ≠ b + 4 → x ≠ b + 6 → x ≠ b + 7 → x ≠ b + 8 → J x = I x) (hb : J b 0 = I b 0 ∧ J b 1 = I b 1 ∧ J b 3 = t 5 ∧ J b 6 = I b 6) :
    IvH t ∧ IvM t ∧ IvO t ∧ IvQ t ∧ EqH J b t ∧ EqM J b t ∧ EqO J b t ph := by
  obtain ⟨z0, z1, z2, z3, z8, z9, z10, z11⟩ := h0
  refine ⟨?_, ?_, ?_, ?_, ?_, ?_, ?_⟩
  · unfold IvH at *; rw [z0, z1, z2, z3, z8, z9, z10, z11]; exact hH
  · intro m k a1 a2 a3 a4
    rw [z2] at a2
    rw [z0, hs _ (by omega), hs _ (by omega)]
    exact hM m k a1 a2 a3 a4
  · intro k a1 a2
    rw [z3] at a2
    rw [z0, z2, hs _ (by omega), hs _ (by omega), hs _ (by omega), hs _ (by omega), hs _ (by omega)]
    exact hO k a1 a2
  · refine ⟨fun j k a1 a2 a3 => ?_, fun k j a1 a2 a3 => ?_, fun m i k a1 a2 a3 a4 a5 a6 a7 => ?_⟩
    · rw [z3] at a3
      rw [hs _ (by omega), hs _ (by omega), hs _ (by omega), hs _ (by omega)]
      exact hQ.1 j k a1 a2 a3
    · rw [z3] at a3
      rw [hs _ (by omega), hs _ (by omega), hs _ (by omega)]
      exact hQ.2.1 k j a1 a2 a3
    · rw [z3] at a6
      rw [z2] at a2
      rw [hs _ (by omega)] at a7
      rw [hs _ (by omega), hs _ (by omega)]
      exact hQ.2.2 m i k a1 a2 a3 a4 a5 a6 a7
  · unfold EqH at *
    rw [hJ (b + 1) (by omega) (by omega) (by omega) (by omega) (by omega) (by omega), z0, z1, z2, z8, z9, z10, z11]
    obtain ⟨q1, q2, q3, q4⟩ := eH
    exact ⟨hb.1.trans q1, hb.2.1.trans q2, hb.2.2.1, hb.2.2.2.trans q4.1, q4.2⟩
  · intro m a1 a2 k a3 a4
    rw [z2] at a2
    rw [hJ (mC b m) (by unfold mC; omega) (by unfold mC; omega) (by unfold mC; omega) (by unfold mC; omega) (by unfold mC; omega) (by unfold mC; omega), hJ (mH b m) (by unfold mH; omega) (by unfold mH; omega) (by unfold mH; omega) (by unfold mH; omega) (by unfold mH; omega) (by unfold mH; omega), hs _ (by omega), hs _ (by omega)]
    exact eM m a1 a2 k a3 a4
  · intro k a1 a2
    rw [z3] at a2
    rw [hJ (b + 10) (by omega) (by omega) (by omega) (by omega) (by omega) (by omega), hJ (b + 11) (by omega) (by omega) (by omega) (by omega) (by omega) (by omega), hJ (b + 12) (by omega) (by omega) (by omega) (by omega) (by omega) (by omega), hJ (b + 13) (by omega) (by omega) (by omega) (by omega) (by omega) (by omega), hJ (b + 14) (by omega) (by omega) (by omega) (by omega) (by omega) (by omega), hs _ (by omega), hs _ (by omega), hs _ (by omega), hs _ (by omega), hs _ (by omega)]
    exact eO k a1 a2
/-- frees: chairs that are not needed are free -/
theorem frM_nei {s : Int → Int} {n m : Nat} {i : Int} : ∀ nc : Nat, (∀ c : Int, 0 ≤ c → c < nc → i ≠ 28 + 5 * c + 0) → frM s n m nc i = s i := by
  intro nc
  induction nc with
  | zero => intro _; rfl
  | succ nc ih =>
    intro h
    rw [frM, fset_ne _ _ (h nc (by omega) (by omega)), ih (fun c h0 h1 => h c h0 (by omega))]
theorem frM_at {s : Int → Int} {n m : Nat} : ∀ nc : Nat, ∀ c : Int, 0 ≤ c → c < nc → frM s n m nc (28 + 5 * c + 0) = if ndM s n m c = true then s (28 + 5 * c + 0) else 0 := by
  intro nc
  induction nc with
  | zero => intro c h0 h1; omega
  | succ nc ih =>
    intro c h0 h1
    rw [frM]
    by_cases hc : c = (nc : Int)
    · rw [hc, fset_at]
    · rw [fset_ne _ _ (by omega), ih c h0 (by omega)]
theorem need_congr {s t : Int → Int} (h1 : ∀ k : Int, 0 ≤ k → k < 8 → t (12 + k) = s (12 + k)) (h2 : t 2 = s 2) (h3 : t 3 = s 3) (h : ∀ i : Int, 63 ≤ i → t i = s i) (c : Int) : need t c ↔ need s c := by
  have e : hadP t c ↔ hadP s c := by
    unfold hadP
    constructor
    · rintro ⟨k, a, b, f⟩; exact ⟨k, a, b, by rw [← h1 k a b]; exact f⟩
    · rintro ⟨k, a, b, f⟩; exact ⟨k, a, b, by rw [h1 k a b]; exact f⟩
  unfold need
  rw [e, (pin_congr h2 h3 h c).1]
/-- 'frees' makes a row exact -/
theorem frees_R {Tc To : Int} {ph : Int → Int} {I : mIt} {b n m nc : Nat} {s : Int → Int} (h : Rg Tc To ph I b s) (hn : s 3 = n) (hm : s 2 = m) (hc : s 0 = nc) : Rg Tc To ph I b (frM s n m nc) ∧ IvX (frM s n m nc) := by
  obtain ⟨hH, hN, hM, hO, hQ, hW, hV, eH, eN, eM, eO, eC, eD, hR⟩ := h
  have h7 := hH.1
  have hm3 : m ≤ 3 := by have := hH.2.2.1; omega
  have f : ∀ i : Int, (∀ c : Int, 0 ≤ c → c < nc → i ≠ 28 + 5 * c + 0) → frM s n m nc i = s i := fun i q => frM_nei nc q
  have f0 : ∀ i : Int, i < 28 → frM s n m nc i = s i := fun i q => f i (fun c _ _ => by omega)
  have f1 : ∀ i : Int, 63 ≤ i → frM s n m nc i = s i := fun i q => f i (fun c _ _ => by omega)
  have f2 : ∀ c w : Int, 1 ≤ w → w ≤ 4 → frM s n m nc (28 + 5 * c + w) = s (28 + 5 * c + w) := fun c w _ _ => f _ (fun c _ _ => by omega)
  have nd : ∀ c, need (frM s n m nc) c ↔ need s c := need_congr (fun k _ _ => f0 _ (by omega)) (f0 2 (by omega)) (f0 3 (by omega)) f1
  have od : ∀ c, ordP (frM s n m nc) c ↔ ordP s c := fun c => (pin_congr (f0 2 (by omega)) (f0 3 (by omega)) f1 c).2
  obtain ⟨kH, kM, kO, kQ, kE, kEM, kEO⟩ := keepMO (J := I) (t := frM s n m nc) hH hM hO hQ eH eM eO f1 ⟨f0 _ (by omega), f0 _ (by omega), f0 _ (by omega), f0 _ (by omega), f0 _ (by omega), f0 _ (by omega), f0 _ (by omega), f0 _ (by omega)⟩ (fun _ _ _ _ _ _ _ => rfl) ⟨rfl, rfl, by rw [f0 5 (by omega)]; exact eH.2.2.1, rfl⟩
  have z0 := f0 0 (by omega)
  refine ⟨⟨kH, ?_, kM, kO, kQ, ?_, ?_, kE, ?_, kEM, kEO, ?_, ?_, hR⟩, ?_⟩
  · intro k a1 a2
    rw [z0, f0 _ (by omega), f0 _ (by omega)]
    exact hN k a1 a2
  · intro c a1 a2
    rw [z0] at a2
    rw [frM_at nc c a1 (by omega), nd c]
    have e := ndM_iff (c := c) hn hm hm3
    have w := hW c a1 a2
    by_cases q : need s c
    · rw [if_pos (e.mpr q)]; exact w
    · rw [if_neg (fun z => q (e.mp z))]; exact ⟨Or.inl rfl, fun z => absurd z q⟩
  · intro c a1 a2
    rw [f2 c 1 (by omega) (by omega)]
    exact hV c a1 a2
  · intro k a1 a2
    rw [f0 _ (by omega), f0 _ (by omega)]
    exact eN k a1 a2
  · intro c a1 a2 a3
    rw [z0] at a2
    have q := eC c a1 a2 ((nd c).mp a3)
    unfold chR at *
    rw [f2 c 4 (by omega) (by omega), f2 c 3 (by omega) (by omega), f2 c 2 (by omega) (by omega), f2 c 1 (by omega) (by omega), f0 7 (by omega), od c]
    exact q
  · intro k a1 a2
    rw [f0 3 (by omega)] at a2
    have q := eD k a1 a2
    unfold orR at *
    rw [f1 (111 + 7 * k + 4) (by omega), f1 (111 + 7 * k + 1) (by omega), f1 (111 + 7 * k + 2) (by omega), f1 (111 + 7 * k + 3) (by omega), f1 (111 + 7 * k + 0) (by omega), f2 _ 2 (by omega) (by omega), f2 _ 2 (by omega) (by omega)]
    exact q
  · intro c a1 a2 a3
    rw [z0] at a2
    rw [frM_at nc c a1 (by omega), if_neg (fun z => a3 ((nd c).mpr ((ndM_iff hn hm hm3).mp z)))]
/-- a name gives up its version -/
theorem had_sub {s t : Int → Int} {c : Int} (hc : 0 ≤ c) (h : ∀ k : Int, 0 ≤ k → k < 8 → t (12 + k) = s (12 + k) ∨ t (12 + k) = -1) : hadP t c → hadP s c := by
  rintro ⟨k, a, b, f⟩
  refine ⟨k, a, b, ?_⟩
  rcases h k a b with q | q
  · rw [← q]; exact f
  · omega
theorem giveUp_R {I : mIt} {b n m nc : Nat} {s : Int → Int} {name : Int} (h : RR I b s) (hn : s 3 = n) (hm : s 2 = m) (hc : s 0 = nc) (n0 : 0 ≤ name) (n7 : name ≤ 7) : RR (mUp I (b + 3) name (-1)) b (guM s n m nc name) := by
  obtain ⟨⟨hH, hN, hM, hO, hQ, hW, hV, eH, eN, eM, eO, eC, eD, hR⟩, hX, hz, hd, hsat⟩ := h
  have h7 := hH.1
  have g : ∀ i : Int, i ≠ 12 + name → fset s (12 + name) (-1) i = s i := fun i q => fset_ne _ _ q
  have J : ∀ x : Nat, x ≠ b + 3 → mUp I (b + 3) name (-1) x = I x := fun x q => mUp_ne _ _ _ q
  have e0 := g 0 (by omega)
  have sub : ∀ c : Int, 0 ≤ c → need (fset s (12 + name) (-1)) c → need s c := by
    intro c c0 nd
    rcases nd with nd | nd
    · refine Or.inl (had_sub c0 (fun k _ _ => ?_) nd)
      by_cases q : k = name
      · right; rw [q, fset_at]
      · left; rw [g _ (by omega)]
    · exact Or.inr ((pin_congr (g 2 (by omega)) (g 3 (by omega)) (fun i _ => g i (by omega)) c).1.mp nd)
  have od : ∀ c, ordP (fset s (12 + name) (-1)) c ↔ ordP s c := fun c => (pin_congr (g 2 (by omega)) (g 3 (by omega)) (fun i _ => g i (by omega)) c).2
  obtain ⟨kH, kM, kO, kQ, kE, kEM, kEO⟩ := keepMO (J := mUp I (b + 3) name (-1)) (t := fset s (12 + name) (-1)) hH hM hO hQ eH eM eO (fun i _ => g i (by omega)) ⟨g _ (by omega), g _ (by omega), g _ (by omega), g _ (by omega), g _ (by omega), g _ (by omega), g _ (by omega), g _ (by omega)⟩ (fun x _ q _ _ _ _ => J x q) ⟨by rw [J b (by omega)], by rw [J b (by omega)], by rw [J b (by omega), g 5 (by omega)]; exact eH.2.2.1, by rw [J b (by omega)]⟩
  have r : Rg (s 1) (s 1) (fun k => k) (mUp I (b + 3) name (-1)) b (fset s (12 + name) (-1)) := by
    refine ⟨kH, ?_, kM, kO, kQ, ?_, ?_, kE, ?_, kEM, kEO, ?_, ?_, ?_⟩
    · intro k a1 a2
      have := hN k a1 a2
      rw [e0, g (20 + k) (by omega)]
      by_cases q : k = name
      · rw [q, fset_at]; rw [q] at this; omega
      · rw [g _ (by omega)]; exact this
    · intro c a1 a2
      rw [e0] at a2
      rw [g (28 + 5 * c + 0) (by omega)]
      exact ⟨(hW c a1 a2).1, fun z => (hW c a1 a2).2 (sub c a1 z)⟩
    · intro c a1 a2
      rw [g _ (by omega)]
      exact hV c a1 a2
    · intro k a1 a2
      have := eN k a1 a2
      rw [g (20 + k) (by omega), J (b + 4) (by omega), mUp_at]
      by_cases q : k = name
      · rw [q, fset_at, fset_at]; rw [q] at this; exact ⟨rfl, this.2⟩
      · rw [fset_ne _ _ q, g _ (by omega)]; exact this
    · intro c a1 a2 a3
      rw [e0] at a2
      have q := eC c a1 a2 (sub c a1 a3)
      unfold chR at *
      rw [J (b + 8) (by omega), J b (by omega), J (b + 6) (by omega), J (b + 7) (by omega), g (28 + 5 * c + 4) (by omega), g (28 + 5 * c + 3) (by omega), g (28 + 5 * c + 2) (by omega), g (28 + 5 * c + 1) (by omega), g 7 (by omega), od c]
      exact q
    · intro k a1 a2
      rw [g 3 (by omega)] at a2
      have q := eD k a1 a2
      have o := hO k a1 a2
      unfold orR at *
      rw [J (b + 6) (by omega), J (b + 7) (by omega), g (111 + 7 * k + 4) (by omega), g (111 + 7 * k + 1) (by omega), g (111 + 7 * k + 2) (by omega), g (111 + 7 * k + 3) (by omega), g (111 + 7 * k + 0) (by omega), g (28 + 5 * s (111 + 7 * k + 2) + 2) (by omega), g (28 + 5 * s (111 + 7 * k + 3) + 2) (by omega)]
      exact q
    · intro c a1 a2
      rw [J (b + 6) (by omega), J (b + 7) (by omega)]
      exact hR c a1 a2
  have fr := frees_R r ((g 3 (by omega)).trans hn) ((g 2 (by omega)).trans hm) (e0.trans hc)
  have k : ∀ i : Int, i < 12 → guM s n m nc name i = s i := by
    intro i hi
    unfold guM
    rw [frM_nei nc (fun c _ _ => by omega), g i (by omega)]
  refine ⟨?_, fr.2, ?_, ?_, ?_⟩
  · rw [k 1 (by omega)]; exact fr.1
  · rw [J (b + 9) (by omega), k 3 (by omega)]; exact hz
  · rw [J b (by omega), k 4 (by omega)]; exact hd
  · rw [J b (by omega), k 6 (by omega)]; exact hsat
