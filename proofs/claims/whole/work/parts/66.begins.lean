/-! ===== the mathematics: orders begin; one tick on both sides ===== -/
theorem need_c2 {s t : Int → Int} (hm3 : s 2 ≤ 3) (h1 : ∀ k : Int, 0 ≤ k → k < 8 → t (12 + k) = s (12 + k)) (h2 : t 2 = s 2) (h3 : t 3 = s 3) (hm : ∀ i : Int, 63 ≤ i → i < 111 → t i = s i) (ho : ∀ k w : Int, 0 ≤ k → 1 ≤ w → w ≤ 3 → t (111 + 7 * k + w) = s (111 + 7 * k + w)) (c : Int) : (need t c ↔ need s c) ∧ (ordP t c ↔ ordP s c) := by
  have e0 : hadP t c ↔ hadP s c := by
    unfold hadP
    constructor
    · rintro ⟨k, a, b, f⟩; exact ⟨k, a, b, by rw [← h1 k a b]; exact f⟩
    · rintro ⟨k, a, b, f⟩; exact ⟨k, a, b, by rw [h1 k a b]; exact f⟩
  have e1 : mrkP t c ↔ mrkP s c := by
    unfold mrkP
    rw [h2]
    constructor
    · rintro ⟨m, a, b, k, d, e, f⟩; exact ⟨m, a, b, k, d, e, by rw [← hm _ (by omega) (by omega)]; exact f⟩
    · rintro ⟨m, a, b, k, d, e, f⟩; exact ⟨m, a, b, k, d, e, by rw [hm _ (by omega) (by omega)]; exact f⟩
  have e2 : redP t c ↔ redP s c := by
    unfold redP
    rw [h3]
    constructor
    · rintro ⟨k, a, b, f⟩; exact ⟨k, a, b, by rw [← ho k 2 a (by omega) (by omega), ← ho k 3 a (by omega) (by omega)]; exact f⟩
    · rintro ⟨k, a, b, f⟩; exact ⟨k, a, b, by rw [ho k 2 a (by omega) (by omega), ho k 3 a (by omega) (by omega)]; exact f⟩
  have e3 : ordP t c ↔ ordP s c := by
    unfold ordP
    rw [h3]
    constructor
    · rintro ⟨k, a, b, f⟩; exact ⟨k, a, b, by rw [← ho k 1 a (by omega) (by omega)]; exact f⟩
    · rintro ⟨k, a, b, f⟩; exact ⟨k, a, b, by rw [ho k 1 a (by omega) (by omega)]; exact f⟩
  exact ⟨by unfold need pinP; rw [e0, e1, e2, e3], e3⟩
theorem begun_R {I J : mIt} {b : Nat} {s t : Int → Int} {k v : Int} (h : RR I b s) (k0 : 0 ≤ k) (k1 : k < s 3) (hv : s 1 < v ∧ v ≤ s 1 + 9) (g1 : s (28 + 5 * s (111 + 7 * k + 2) + 2) = 1) (g2 : s (28 + 5 * s (111 + 7 * k + 3) + 2) = 1)
    (hJ : ∀ z : Nat, z ≠ b + 7 → J z = I z) (J7 : J (b + 7) = fset (I (b + 7)) (s (111 + 7 * k + 1)) v) (ht : t = fset s (111 + 7 * k + 4) v) : RR J b t := by
  obtain ⟨⟨hH, hN, hM, hO, hQ, hW, hV, eH, eN, eM, eO, eC, eD, hR⟩, hX, hz, hd, hsat⟩ := h
  have h7 := hH.1
  have g : ∀ i : Int, i ≠ 111 + 7 * k + 4 → t i = s i := fun i q => by rw [ht, fset_ne _ _ q]
  have g4 : t (111 + 7 * k + 4) = v := by rw [ht, fset_at]
  have gl : ∀ i : Int, i < 111 → t i = s i := fun i q => g i (by omega)
  have go : ∀ p w : Int, w ≠ 4 → 0 ≤ w → w < 7 → t (111 + 7 * p + w) = s (111 + 7 * p + w) := fun p w a1 a2 a3 => g _ (by omega)
  have nd := fun c => (need_c2 (s := s) (t := t) hH.2.2.1.2 (fun k _ _ => gl _ (by omega)) (gl 2 (by omega)) (gl 3 (by omega)) (fun i _ a => gl i a) (fun p w _ _ _ => go p w (by omega) (by omega) (by omega)) c).1
  have od := fun c => (need_c2 (s := s) (t := t) hH.2.2.1.2 (fun k _ _ => gl _ (by omega)) (gl 2 (by omega)) (gl 3 (by omega)) (fun i _ a => gl i a) (fun p w _ _ _ => go p w (by omega) (by omega) (by omega)) c).2
  have z0 := gl 0 (by omega)
  have z1 := gl 1 (by omega)
  have z2 := gl 2 (by omega)
  have z3 := gl 3 (by omega)
  refine ⟨⟨?_, ?_, ?_, ?_, ?_, ?_, ?_, ?_, ?_, ?_, ?_, ?_, ?_, ?_⟩, ?_, ?_, ?_, ?_⟩
  · unfold IvH at *; rw [z0, z1, z2, z3, gl 8 (by omega), gl 9 (by omega), gl 10 (by omega), gl 11 (by omega)]; exact hH
  · intro k a1 a2
    rw [z0, gl _ (by omega), gl _ (by omega)]; exact hN k a1 a2
  · intro m k a1 a2 a3 a4
    rw [z2] at a2
    have := hH.2.2.1
    rw [z0, gl _ (by omega), gl _ (by omega)]; exact hM m k a1 a2 a3 a4
  · intro p a1 a2
    rw [z3] at a2
    rw [z0, z2, go p 0 (by omega) (by omega) (by omega), go p 1 (by omega) (by omega) (by omega), go p 2 (by omega) (by omega) (by omega), go p 3 (by omega) (by omega) (by omega), go p 5 (by omega) (by omega) (by omega)]
    exact hO p a1 a2
  · refine ⟨fun j p a1 a2 a3 => ?_, fun p j a1 a2 a3 => ?_, fun m i p a1 a2 a3 a4 a5 a6 a7 => ?_⟩
    · rw [z3] at a3
      rw [go j 5 (by omega) (by omega) (by omega), go j 1 (by omega) (by omega) (by omega), go p 5 (by omega) (by omega) (by omega), go p 1 (by omega) (by omega) (by omega)]
      exact hQ.1 j p a1 a2 a3
    · rw [z3] at a3
      rw [go p 2 (by omega) (by omega) (by omega), go p 3 (by omega) (by omega) (by omega), go j 1 (by omega) (by omega) (by omega)]
      exact hQ.2.1 p j a1 a2 a3
    · rw [z3] at a6
      rw [z2] at a2
      have := hH.2.2.1
      rw [go p 5 (by omega) (by omega) (by omega)] at a7
      rw [gl _ (by omega), go p 1 (by omega) (by omega) (by omega)]
      exact hQ.2.2 m i p a1 a2 a3 a4 a5 a6 a7
  · intro c a1 a2
    rw [z0] at a2
    rw [gl _ (by omega), nd c]; exact hW c a1 a2
  · intro c a1 a2
    rw [gl _ (by omega)]; exact hV c a1 a2
  · unfold EqH at *
    rw [hJ b (by omega), hJ (b + 1) (by omega), z0, z1, z2, gl 5 (by omega), gl 8 (by omega), gl 9 (by omega), gl 10 (by omega), gl 11 (by omega)]
    exact eH
  · intro k a1 a2
    rw [hJ _ (by omega), hJ _ (by omega), gl _ (by omega), gl _ (by omega)]; exact eN k a1 a2
  · intro m a1 a2 k a3 a4
    rw [z2] at a2
    have := hH.2.2.1
    rw [hJ (mC b m) (by unfold mC; omega), hJ (mH b m) (by unfold mH; omega), gl _ (by omega), gl _ (by omega)]; exact eM m a1 a2 k a3 a4
  · intro p a1 a2
    rw [z3] at a2
    rw [hJ _ (by omega), hJ _ (by omega), hJ _ (by omega), hJ _ (by omega), hJ _ (by omega), go p 0 (by omega) (by omega) (by omega), go p 1 (by omega) (by omega) (by omega), go p 2 (by omega) (by omega) (by omega), go p 3 (by omega) (by omega) (by omega), go p 5 (by omega) (by omega) (by omega)]
    exact eO p a1 a2
  · intro c a1 a2 a3
    rw [z0] at a2
    have r := eC c a1 a2 ((nd c).mp a3)
    unfold chR at *
    rw [hJ (b + 8) (by omega), hJ b (by omega), hJ (b + 6) (by omega), J7, gl (28 + 5 * c + 4) (by omega), gl (28 + 5 * c + 3) (by omega), gl (28 + 5 * c + 2) (by omega), gl (28 + 5 * c + 1) (by omega), gl 7 (by omega), z1, od c]
    refine ⟨r.1, ?_⟩
    rcases r.2 with q | q
    · exact Or.inl q
    · right
      have cx : c ≠ s (111 + 7 * k + 1) := fun z => q.1 ⟨k, k0, k1, z.symm⟩
      rw [fset_ne _ _ cx]; exact q
  · intro p a1 a2
    rw [z3] at a2
    have q := eD p a1 a2
    have o := hO p a1 a2
    unfold orR at *
    rw [hJ (b + 6) (by omega), J7, go p 0 (by omega) (by omega) (by omega), go p 1 (by omega) (by omega) (by omega), go p 2 (by omega) (by omega) (by omega), go p 3 (by omega) (by omega) (by omega), gl (28 + 5 * s (111 + 7 * p + 2) + 2) (by omega), gl (28 + 5 * s (111 + 7 * p + 3) + 2) (by omega), z1]
    refine ⟨?_, q.2⟩
    by_cases e : p = k
    · right; rw [e, g4, fset_at]; exact ⟨hv.1, hv.2, rfl, g1, g2⟩
    · have tx : s (111 + 7 * p + 1) ≠ s (111 + 7 * k + 1) := by
        by_cases l : p < k
        · exact (hQ.1 p k a1 l k1).2
        · exact Ne.symm (hQ.1 k p k0 (by omega) a2).2
      rw [g (111 + 7 * p + 4) (by omega), fset_ne _ _ tx]; exact q.1
  · intro c a1 a2
    have hr := hR c a1 a2
    have hT := hH.2.1
    rw [hJ (b + 6) (by omega), J7]
    by_cases q : c = s (111 + 7 * k + 1)
    · rw [q, fset_at]; rw [q] at hr; omega
    · rw [fset_ne _ _ q]; exact hr
  · intro c a1 a2 a3
    rw [z0] at a2
    rw [gl _ (by omega)]
    exact hX c a1 a2 (fun z => a3 ((nd c).mpr z))
  · rw [hJ _ (by omega), z3]; exact hz
  · rw [hJ _ (by omega), gl 4 (by omega)]; exact hd
  · rw [hJ _ (by omega), gl 6 (by omega)]; exact hsat
/-- known, on both sides -/
theorem known_iff {I : mIt} {b : Nat} {s : Int → Int} {c : Int} (h : RR I b s) (c0 : 0 ≤ c) (c1 : c < s 0) (nd : need s c) : (I (b + 7) c ≤ s 1 ↔ s (28 + 5 * c + 2) = 1) ∧ (s (28 + 5 * c + 2) = 0 ∨ s (28 + 5 * c + 2) = 1) := by
  have eC := h.1.2.2.2.2.2.2.2.2.2.2.2.1 c c0 c1 nd
  have eD := h.1.2.2.2.2.2.2.2.2.2.2.2.2.1
  have hT := h.1.1.2.1
  unfold chR at eC
  rcases eC.2 with ⟨⟨k, k0, k1, e⟩, q2, q3⟩ | ⟨q1, q2, q3⟩
  · have d := (eD k k0 k1).1
    rw [e] at d
    exact ⟨⟨fun z => by omega, fun z => by omega⟩, by omega⟩
  · exact ⟨⟨fun z => by omega, fun z => by omega⟩, by omega⟩
theorem arZ_at (I : mIt) (a : Nat) (f : Int → Int) : arS I a f a = f := by unfold arS; rw [if_pos rfl]
theorem arS_no (I : mIt) {a x : Nat} (f : Int → Int) (h : x ≠ a) : arS I a f x = I x := by unfold arS; rw [if_neg h]
theorem boS_stop {K : mIt} {b i : Nat} {cnt : Int} {kn : Int → Int} (h : boS K b i = (cnt, kn)) (hc : ¬ cnt < K (b + 1) 3) : ∀ g : Nat, boS K b (i + g) = (cnt, kn) := by
  intro g
  induction g with
  | zero => exact h
  | succ g ih =>
    rw [show i + (g + 1) = (i + g) + 1 by omega, boS, ih, if_neg (fun z => hc z.2)]
theorem begins_R {K : mIt} {b n : Nat} : ∀ f i : Nat, ∀ (cnt : Nat) (kn : Int → Int) (x : Int → Int), f + i = n → RR (arS K (b + 7) kn) b x → x 3 = n → boS K b i = ((cnt : Int), kn) →
    RR (arS K (b + 7) (boS K b n).2) b (bnS f x i cnt) ∧ (∀ j : Int, j < 111 → bnS f x i cnt j = x j) ∧ (∀ p w : Int, 0 ≤ p → 0 ≤ w → w < 4 → bnS f x i cnt (111 + 7 * p + w) = x (111 + 7 * p + w)) ∧
    (∀ p : Int, 0 ≤ p → x (111 + 7 * p + 4) ≠ -1 → p < n → bnS f x i cnt (111 + 7 * p + 4) = x (111 + 7 * p + 4)) := by
  intro f
  induction f with
  | zero =>
    intro i cnt kn x h1 h2 h3 h4
    have : i = n := by omega
    subst this
    rw [h4]
    exact ⟨h2, fun j _ => rfl, fun p w _ _ _ => rfl, fun p _ _ _ => rfl⟩
  | succ f ih =>
    intro i cnt kn x h1 h2 h3 h4
    have eH := h2.1.2.2.2.2.2.2.2.1
    have hO := h2.1.2.2.2.1 i (by omega) (by omega)
    have eO := h2.1.2.2.2.2.2.2.2.2.2.2.1 i (by omega) (by omega)
    have eD := (h2.1.2.2.2.2.2.2.2.2.2.2.2.2.1 i (by omega) (by omega)).1
    have hH := h2.1.1
    have h7 := hH.1
    simp only at eO
    rw [arS_no _ _ (show b + 10 ≠ b + 7 by omega), arS_no _ _ (show b + 11 ≠ b + 7 by omega), arS_no _ _ (show b + 12 ≠ b + 7 by omega), arS_no _ _ (show b + 13 ≠ b + 7 by omega)] at eO
    rw [arZ_at] at eD
    have e11 : x 11 = K (b + 1) 3 := by
      have := eH.2.2.2.2.2.2.2
      rw [arS_no _ _ (by omega)] at this; exact this.symm
    have e8 : x 8 = K (b + 1) 0 := by
      have := eH.2.2.2.2.1
      rw [arS_no _ _ (by omega)] at this; exact this.symm
    have e9 : x 9 = K (b + 1) 1 := by
      have := eH.2.2.2.2.2.1
      rw [arS_no _ _ (by omega)] at this; exact this.symm
    have e1 : x 1 = K b 1 := by
      have := eH.2.1
      rw [arS_no _ _ (by omega)] at this; exact this.symm
    rw [bnS, e11]
    by_cases hc : (cnt : Int) < K (b + 1) 3
    · rw [if_pos hc]
      have n1 := (known_iff h2 (c := x (111 + 7 * (i : Int) + 2)) (by omega) (by omega) (Or.inr (Or.inr (Or.inl ⟨i, by omega, by omega, Or.inl rfl⟩)))).1
      have n2 := (known_iff h2 (c := x (111 + 7 * (i : Int) + 3)) (by omega) (by omega) (Or.inr (Or.inr (Or.inl ⟨i, by omega, by omega, Or.inr rfl⟩)))).1
      rw [arZ_at, e1] at n1 n2
      have hd : kn (x (111 + 7 * (i : Int) + 1)) = 1000000 ↔ x (111 + 7 * (i : Int) + 4) < 0 := by
        have := hH.2.1
        rcases eD with z | z <;> constructor <;> intro q <;> omega
      have k1 : kOf kn (K (b + 11) i) = kn (x (111 + 7 * (i : Int) + 1)) := by rw [eO.2.1]; unfold kOf; rw [if_pos (by omega)]
      have k2 : kOf kn (K (b + 12) i) = kn (x (111 + 7 * (i : Int) + 2)) := by rw [eO.2.2.1]; unfold kOf; rw [if_pos (by omega)]
      have k3 : kOf kn (K (b + 13) i) = kn (x (111 + 7 * (i : Int) + 3)) := by rw [eO.2.2.2.1]; unfold kOf; rw [if_pos (by omega)]
      by_cases can : x (111 + 7 * (i : Int) + 4) < 0 ∧ x (28 + 5 * (x (111 + 7 * (i : Int) + 2)) + 2) = 1 ∧ x (28 + 5 * (x (111 + 7 * (i : Int) + 3)) + 2) = 1
      · rw [if_pos can]
        have hb : boS K b (i + 1) = (((cnt + 1 : Nat) : Int), fset kn (x (111 + 7 * (i : Int) + 1)) (x 1 + (if x (111 + 7 * (i : Int) + 0) = 2 then x (8 + 1) else x (8 + 0)))) := by
          rw [boS, h4]
          simp only
          rw [k1, k2, k3, if_pos ⟨⟨hd.mpr can.1, n1.mpr can.2.1, n2.mpr can.2.2⟩, hc⟩, eO.2.1, if_pos ⟨by omega, by omega⟩, eO.1, e1]
          have e : K (b + 1) (if x (111 + 7 * (i : Int) + 0) = 2 then 1 else 0) = (if x (111 + 7 * (i : Int) + 0) = 2 then x (8 + 1) else x (8 + 0)) := by
            split
            · exact e9.symm
            · exact e8.symm
          rw [e]
          rfl
        have dd : 1 ≤ (if x (111 + 7 * (i : Int) + 0) = 2 then x (8 + 1) else x (8 + 0)) ∧ (if x (111 + 7 * (i : Int) + 0) = 2 then x (8 + 1) else x (8 + 0)) ≤ 9 := by
          have := hH.2.2.2.2
          split
          · show 1 ≤ x 9 ∧ x 9 ≤ 9; omega
          · show 1 ≤ x 8 ∧ x 8 ≤ 9; omega
        have nx : RR (arS K (b + 7) (fset kn (x (111 + 7 * (i : Int) + 1)) (x 1 + (if x (111 + 7 * (i : Int) + 0) = 2 then x (8 + 1) else x (8 + 0))))) b (bnT x i) := by
          refine begun_R (k := i) (v := x 1 + (if x (111 + 7 * (i : Int) + 0) = 2 then x (8 + 1) else x (8 + 0))) h2 (by omega) (by omega) (by omega) can.2.1 can.2.2 (fun z hz => ?_) ?_ rfl
          · rw [arS_no _ _ hz, arS_no _ _ hz]
          · rw [arZ_at, arZ_at]
        have tl : ∀ j : Int, j ≠ 111 + 7 * (i : Int) + 4 → bnT x i j = x j := fun j q => by unfold bnT; rw [fset_ne _ _ q]
        obtain ⟨r1, r2, r3, r4⟩ := ih (i + 1) (cnt + 1) _ (bnT x i) (by omega) nx (by rw [tl 3 (by omega)]; exact h3) hb
        refine ⟨r1, fun j hj => by rw [r2 j hj, tl j (by omega)], fun p w a1 a2 a3 => by rw [r3 p w a1 a2 a3, tl _ (by omega)], fun p a1 a2 a3 => ?_⟩
        have : p ≠ i := by intro z; subst z; rcases eD with z | z <;> omega
        rw [r4 p a1 (by rw [tl _ (by omega)]; exact a2) a3, tl _ (by omega)]
      · rw [if_neg can]
        have hb : boS K b (i + 1) = ((cnt : Int), kn) := by
          rw [boS, h4]
          simp only
          rw [k1, k2, k3, if_neg (fun z => can ⟨hd.mp z.1.1, n1.mp z.1.2.1, n2.mp z.1.2.2⟩)]
        exact ih (i + 1) cnt kn x (by omega) h2 h3 hb
    · rw [if_neg hc]
      have := boS_stop h4 hc (n - i)
      rw [show i + (n - i) = n by omega] at this
      rw [this]
      exact ⟨h2, fun j _ => rfl, fun p w _ _ _ => rfl, fun p _ _ _ => rfl⟩
/-- one tick, on both sides -/
theorem tick_R {I : mIt} {b n m nc : Nat} {s : Int → Int} (h : RR I b s) (hn : s 3 = n) (hm : s 2 = m) (hc : s 0 = nc) (hT : s 1 + 1 ≤ 60000) : RR (tkI I b n) b (tsS s n m nc) ∧ tdN s n nc = tkN I b n ∧ tkN I b n ≤ n ∧
    tsS s n m nc 3 = (tkN I b n : Nat) ∧ tsS s n m nc 4 = s 4 + ((n : Int) - (tkN I b n : Nat)) ∧ tsS s n m nc 1 = s 1 + 1 ∧ (∀ j : Int, j < 12 → j ≠ 1 → j ≠ 3 → j ≠ 4 → tsS s n m nc j = s j) := by
  obtain ⟨r, e1, e2, e3, e4, e5, e6⟩ := ticked_R h hn hm hc hT
  have hk : arS (finI (mUp I b 1 (I b 1 + 1)) b n) (b + 7) (finI (mUp I b 1 (I b 1 + 1)) b n (b + 7)) = finI (mUp I b 1 (I b 1 + 1)) b n := by
    funext z; unfold arS; split
    · rename_i q; rw [q]
    · rfl
  have b1 := begins_R (K := finI (mUp I b 1 (I b 1 + 1)) b n) (b := b) (n := tkN I b n) (tkN I b n) 0 0 _ (tdS s n m nc) (by omega) (by rw [hk]; exact r) e3 rfl
  obtain ⟨b1, b2, _⟩ := b1
  have et : tsS s n m nc = bnS (tkN I b n) (tdS s n m nc) 0 0 := by unfold tsS; rw [e1]
  rw [et]
  refine ⟨b1, e1, e2, by rw [b2 3 (by omega)]; exact e3, by rw [b2 4 (by omega)]; exact e4, by rw [b2 1 (by omega)]; exact e5, fun j a1 a2 a3 a4 => by rw [b2 j (by omega)]; exact e6 j a1 a2 a3 a4⟩
