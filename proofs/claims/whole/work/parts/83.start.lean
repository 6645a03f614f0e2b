/-! ===== the mathematics: the start, all calls together ===== -/
theorem lw_all : ∀ (n : Nat) (I : mIt) (P : mPt), n < 512 → LW n I P → lwStps LW n I P := by
  rintro n I P hn ⟨r, t, h, hA, hW, hR, hL⟩
  exact ⟨fun a _ => st_begin hn hA hW hR hL a, fun a _ b _ => st_put hn hA hW hR hL a b, fun a _ b _ => st_copy hn hA hW hR hL a b, fun a _ b _ c _ d _ => st_order hn hA hW hR hL a b c d, fun a _ => st_tick hn hA hW hR hL a, fun a _ b _ => st_set hn hA hW hR hL a b, st_mark hn hA hW hR hL, st_keep hn hA hW hR hL, fun a _ => st_back hn hA hW hR hL a,
    fun a _ b _ c _ => st_markOf hn hA hW hR hL a b c, fun a _ b _ => st_nameOf hn hA hW hR hL a b, fun a _ b _ => st_chairOf hn hA hW hR hL a b, fun a _ b _ => st_orderOf hn hA hW hR hL a b, fun a _ => st_count hn hA hW hR hL a, fun a _ b _ c _ => st_sends hn hA hW hR hL a b c, st_idleIn hn hA hW hR hL, fun a _ => st_knownIn hn hA hW hR hL a, st_undo hn hA hW hR hL, fun a _ => st_type hn hA hW hR hL a, st_clearText hn hA hW hR hL, fun a _ => st_fault hn hA hW hR hL a, st_play hn hA hW hR hL⟩
def h0F (i : Int) : Nat := if i = 0 then 55 else if i = 1 then 80 else if i = 2 then 105 else 130
theorem rma0 : RmA 1 26 h0F := by
  unfold RmA h0F RmB
  refine ⟨by omega, by omega, by omega, fun i a b => ?_, fun i j a b c d e => ?_⟩
  · have : i = 0 ∨ i = 1 ∨ i = 2 ∨ i = 3 := by omega
    rcases this with z | z | z | z <;> subst z <;> simp
  · have h1 : i = 0 ∨ i = 1 ∨ i = 2 ∨ i = 3 := by omega
    have h2 : j = 0 ∨ j = 1 ∨ j = 2 ∨ j = 3 := by omega
    rcases h1 with z | z | z | z <;> rcases h2 with y | y | y | y <;> subst z <;> subst y <;> first | exact absurd rfl e | simp
theorem rm0_1 : isRm lP0 1 := by
  unfold isRm isNm isVs isOr
  exact ⟨⟨by decide +kernel, by decide +kernel, by decide +kernel⟩, ⟨by decide +kernel, by decide +kernel, by decide +kernel, by decide +kernel, by decide +kernel⟩, ⟨by decide +kernel, by decide +kernel, by decide +kernel, by decide +kernel, by decide +kernel⟩, ⟨by decide +kernel, by decide +kernel, by decide +kernel, by decide +kernel, by decide +kernel, by decide +kernel, by decide +kernel⟩, ⟨by decide +kernel, by decide +kernel, by decide +kernel, by decide +kernel, by decide +kernel, by decide +kernel, by decide +kernel, by decide +kernel, by decide +kernel, by decide +kernel, by decide +kernel⟩, ⟨by decide +kernel, by decide +kernel, by decide +kernel⟩, ⟨by decide +kernel, by decide +kernel, by decide +kernel, by decide +kernel, by decide +kernel⟩, ⟨by decide +kernel, by decide +kernel, by decide +kernel, by decide +kernel, by decide +kernel⟩, ⟨by decide +kernel, by decide +kernel, by decide +kernel, by decide +kernel, by decide +kernel⟩⟩
theorem rm0_26 : isRm lP0 26 := by
  unfold isRm isNm isVs isOr
  exact ⟨⟨by decide +kernel, by decide +kernel, by decide +kernel⟩, ⟨by decide +kernel, by decide +kernel, by decide +kernel, by decide +kernel, by decide +kernel⟩, ⟨by decide +kernel, by decide +kernel, by decide +kernel, by decide +kernel, by decide +kernel⟩, ⟨by decide +kernel, by decide +kernel, by decide +kernel, by decide +kernel, by decide +kernel, by decide +kernel, by decide +kernel⟩, ⟨by decide +kernel, by decide +kernel, by decide +kernel, by decide +kernel, by decide +kernel, by decide +kernel, by decide +kernel, by decide +kernel, by decide +kernel, by decide +kernel, by decide +kernel⟩, ⟨by decide +kernel, by decide +kernel, by decide +kernel⟩, ⟨by decide +kernel, by decide +kernel, by decide +kernel, by decide +kernel, by decide +kernel⟩, ⟨by decide +kernel, by decide +kernel, by decide +kernel, by decide +kernel, by decide +kernel⟩, ⟨by decide +kernel, by decide +kernel, by decide +kernel, by decide +kernel, by decide +kernel⟩⟩
theorem rm0_55 : isRm lP0 55 := by
  unfold isRm isNm isVs isOr
  exact ⟨⟨by decide +kernel, by decide +kernel, by decide +kernel⟩, ⟨by decide +kernel, by decide +kernel, by decide +kernel, by decide +kernel, by decide +kernel⟩, ⟨by decide +kernel, by decide +kernel, by decide +kernel, by decide +kernel, by decide +kernel⟩, ⟨by decide +kernel, by decide +kernel, by decide +kernel, by decide +kernel, by decide +kernel, by decide +kernel, by decide +kernel⟩, ⟨by decide +kernel, by decide +kernel, by decide +kernel, by decide +kernel, by decide +kernel, by decide +kernel, by decide +kernel, by decide +kernel, by decide +kernel, by decide +kernel, by decide +kernel⟩, ⟨by decide +kernel, by decide +kernel, by decide +kernel⟩, ⟨by decide +kernel, by decide +kernel, by decide +kernel, by decide +kernel, by decide +kernel⟩, ⟨by decide +kernel, by decide +kernel, by decide +kernel, by decide +kernel, by decide +kernel⟩, ⟨by decide +kernel, by decide +kernel, by decide +kernel, by decide +kernel, by decide +kernel⟩⟩
theorem rm0_80 : isRm lP0 80 := by
  unfold isRm isNm isVs isOr
  exact ⟨⟨by decide +kernel, by decide +kernel, by decide +kernel⟩, ⟨by decide +kernel, by decide +kernel, by decide +kernel, by decide +kernel, by decide +kernel⟩, ⟨by decide +kernel, by decide +kernel, by decide +kernel, by decide +kernel, by decide +kernel⟩, ⟨by decide +kernel, by decide +kernel, by decide +kernel, by decide +kernel, by decide +kernel, by decide +kernel, by decide +kernel⟩, ⟨by decide +kernel, by decide +kernel, by decide +kernel, by decide +kernel, by decide +kernel, by decide +kernel, by decide +kernel, by decide +kernel, by decide +kernel, by decide +kernel, by decide +kernel⟩, ⟨by decide +kernel, by decide +kernel, by decide +kernel⟩, ⟨by decide +kernel, by decide +kernel, by decide +kernel, by decide +kernel, by decide +kernel⟩, ⟨by decide +kernel, by decide +kernel, by decide +kernel, by decide +kernel, by decide +kernel⟩, ⟨by decide +kernel, by decide +kernel, by decide +kernel, by decide +kernel, by decide +kernel⟩⟩
theorem rm0_105 : isRm lP0 105 := by
  unfold isRm isNm isVs isOr
  exact ⟨⟨by decide +kernel, by decide +kernel, by decide +kernel⟩, ⟨by decide +kernel, by decide +kernel, by decide +kernel, by decide +kernel, by decide +kernel⟩, ⟨by decide +kernel, by decide +kernel, by decide +kernel, by decide +kernel, by decide +kernel⟩, ⟨by decide +kernel, by decide +kernel, by decide +kernel, by decide +kernel, by decide +kernel, by decide +kernel, by decide +kernel⟩, ⟨by decide +kernel, by decide +kernel, by decide +kernel, by decide +kernel, by decide +kernel, by decide +kernel, by decide +kernel, by decide +kernel, by decide +kernel, by decide +kernel, by decide +kernel⟩, ⟨by decide +kernel, by decide +kernel, by decide +kernel⟩, ⟨by decide +kernel, by decide +kernel, by decide +kernel, by decide +kernel, by decide +kernel⟩, ⟨by decide +kernel, by decide +kernel, by decide +kernel, by decide +kernel, by decide +kernel⟩, ⟨by decide +kernel, by decide +kernel, by decide +kernel, by decide +kernel, by decide +kernel⟩⟩
theorem rm0_130 : isRm lP0 130 := by
  unfold isRm isNm isVs isOr
  exact ⟨⟨by decide +kernel, by decide +kernel, by decide +kernel⟩, ⟨by decide +kernel, by decide +kernel, by decide +kernel, by decide +kernel, by decide +kernel⟩, ⟨by decide +kernel, by decide +kernel, by decide +kernel, by decide +kernel, by decide +kernel⟩, ⟨by decide +kernel, by decide +kernel, by decide +kernel, by decide +kernel, by decide +kernel, by decide +kernel, by decide +kernel⟩, ⟨by decide +kernel, by decide +kernel, by decide +kernel, by decide +kernel, by decide +kernel, by decide +kernel, by decide +kernel, by decide +kernel, by decide +kernel, by decide +kernel, by decide +kernel⟩, ⟨by decide +kernel, by decide +kernel, by decide +kernel⟩, ⟨by decide +kernel, by decide +kernel, by decide +kernel, by decide +kernel, by decide +kernel⟩, ⟨by decide +kernel, by decide +kernel, by decide +kernel, by decide +kernel, by decide +kernel⟩, ⟨by decide +kernel, by decide +kernel, by decide +kernel, by decide +kernel, by decide +kernel⟩⟩
theorem pw0 : PW lP0 := by
  unfold PW isTx isMd
  refine ⟨⟨by decide +kernel, by decide +kernel⟩, ⟨by decide +kernel, by decide +kernel, by decide +kernel, by decide +kernel, by decide +kernel, by decide +kernel, by decide +kernel⟩, by decide +kernel, by decide +kernel, fun b hb => ?_⟩
  rcases hb with z | z | z | z | z | z <;> subst z
  · exact rm0_1
  · exact rm0_26
  · exact rm0_55
  · exact rm0_80
  · exact rm0_105
  · exact rm0_130
theorem pr0 : PR lP0 1 26 h0F := by
  refine ⟨by decide +kernel, by decide +kernel, fun i a b => ?_⟩
  have : i = 0 ∨ i = 1 ∨ i = 2 ∨ i = 3 := by omega
  rcases this with z | z | z | z <;> subst z <;> decide +kernel
/-- the model's row at the start -/
theorem row0 {k : Int} (h0 : 0 ≤ k) (h1 : k < 153) : lI0 156 k = if k = 0 then 5 else if k = 8 then 1 else if k = 9 then 3 else if k = 10 then 2 else if k = 11 then 2 else if 12 ≤ k ∧ k ≤ 19 then -1 else 0 := by
  have e : lI0 156 k = clS (mdJ0 (cnI0 (fun _ _ => 0)) 156) 5 k := by unfold lI0 mdI0; rw [arS_at]
  rw [e]
  unfold clS
  by_cases k0 : k = 0
  · rw [k0, fset_at, if_pos rfl]
  · rw [fset_ne _ _ k0, if_neg k0]
    unfold cpF
    rw [if_pos ⟨h0, h1⟩]
    simp only
    by_cases k8 : 8 ≤ k ∧ k ≤ 11
    · rw [if_pos k8]
      have : k = 8 ∨ k = 9 ∨ k = 10 ∨ k = 11 := by omega
      rcases this with z | z | z | z <;> subst z <;> decide +kernel
    · rw [if_neg k8, if_neg (show ¬ k = 8 by omega), if_neg (show ¬ k = 9 by omega), if_neg (show ¬ k = 10 by omega), if_neg (show ¬ k = 11 by omega)]
theorem no_need {s : Int → Int} (h12 : ∀ k : Int, 0 ≤ k → k < 8 → s (12 + k) = -1) (h2 : s 2 = 0) (h3 : s 3 = 0) {c : Int} (hc : 0 ≤ c) : ¬ need s c := by
  unfold need hadP pinP mrkP redP ordP
  rintro (⟨k, a, b, e⟩ | ⟨m, a, b, k, c', d, e⟩ | ⟨k, a, b, e⟩ | ⟨k, a, b, e⟩)
  · rw [h12 k a b] at e; omega
  · omega
  · omega
  · omega
theorem z53 (i : Int) : lI0 53 i = 0 ∧ lI0 160 i = 0 ∧ lI0 161 i = 0 := by
  unfold lI0 mdI0 mdJ0 cnI0
  refine ⟨?_, ?_, ?_⟩ <;> (rw [arS_ne _ _ (by omega)]; (repeat first | rw [mUp_ne _ _ _ (by omega)] | rw [ruI_ne _ (by omega)]))
theorem gs0 : GS 0 lI0 1 (lI0 156) := by
  have h0 : lI0 156 0 = 5 := by rw [row0 (by omega) (by omega)]; rfl
  have z : ∀ k : Int, 0 < k → k < 153 → ¬ (8 ≤ k ∧ k ≤ 19) → lI0 156 k = 0 := fun k a b c => by
    rw [row0 (by omega) b, if_neg (by omega), if_neg (by omega), if_neg (by omega), if_neg (by omega), if_neg (by omega), if_neg (by omega)]
  have h1 := z 1 (by omega) (by omega) (by omega)
  have h2 := z 2 (by omega) (by omega) (by omega)
  have h3 := z 3 (by omega) (by omega) (by omega)
  have h4 := z 4 (by omega) (by omega) (by omega)
  have h5 := z 5 (by omega) (by omega) (by omega)
  have h6 := z 6 (by omega) (by omega) (by omega)
  have h7 := z 7 (by omega) (by omega) (by omega)
  have h8 : lI0 156 8 = 1 := by rw [row0 (by omega) (by omega)]; rfl
  have h9 : lI0 156 9 = 3 := by rw [row0 (by omega) (by omega)]; rfl
  have h10 : lI0 156 10 = 2 := by rw [row0 (by omega) (by omega)]; rfl
  have h11 : lI0 156 11 = 2 := by rw [row0 (by omega) (by omega)]; rfl
  have h12 : ∀ k : Int, 0 ≤ k → k < 8 → lI0 156 (12 + k) = -1 := fun k a b => by
    rw [row0 (by omega) (by omega), if_neg (by omega), if_neg (by omega), if_neg (by omega), if_neg (by omega), if_neg (by omega), if_pos (by omega)]
  have h20 : ∀ k : Int, 0 ≤ k → k < 8 → lI0 156 (20 + k) = 0 := fun k a b => z _ (by omega) (by omega) (by omega)
  have nn : ∀ c : Int, 0 ≤ c → ¬ need (lI0 156) c := fun c hc => no_need h12 h2 h3 hc
  have e0 : lI0 1 0 = 5 ∧ lI0 1 1 = 0 ∧ lI0 1 2 = 0 ∧ lI0 1 3 = 0 ∧ lI0 1 4 = 0 ∧ lI0 1 5 = 0 ∧ lI0 1 6 = 0 := ⟨by decide +kernel, by decide +kernel, by decide +kernel, by decide +kernel, by decide +kernel, by decide +kernel, by decide +kernel⟩
  have e1 : lI0 (1 + 1) 0 = 1 ∧ lI0 (1 + 1) 1 = 3 ∧ lI0 (1 + 1) 2 = 2 ∧ lI0 (1 + 1) 3 = 2 := ⟨by decide +kernel, by decide +kernel, by decide +kernel, by decide +kernel⟩
  have e9 : lI0 (1 + 9) 0 = 0 := by decide +kernel
  obtain ⟨a0, a1, a2, a3, a4, a5, a6⟩ := e0
  refine ⟨⟨⟨?_, ?_, ?_, ?_, ?_, ?_, ?_, ?_, ?_, ?_, ?_, ?_, ?_, ?_⟩, ?_, by omega, by omega, by omega⟩, by omega, ?_⟩
  · unfold IvH; omega
  · intro k a b
    rw [h12 k a b, h20 k a b, h0]; omega
  · intro m k a b; omega
  · intro k a b; omega
  · exact ⟨fun j k a b c => by omega, fun k j a b c => by omega, fun m i k a b => by omega⟩
  · intro c a b
    exact ⟨Or.inl (z _ (by omega) (by omega) (by omega)), fun y => absurd y (nn c a)⟩
  · intro c a b
    rw [z _ (by omega) (by omega) (by omega)]; omega
  · unfold EqH; omega
  · intro k a b
    rw [h12 k a b, h20 k a b]
    have : k = 0 ∨ k = 1 ∨ k = 2 ∨ k = 3 ∨ k = 4 ∨ k = 5 ∨ k = 6 ∨ k = 7 := by omega
    rcases this with y | y | y | y | y | y | y | y <;> subst y <;> exact ⟨by decide +kernel, by decide +kernel⟩
  · intro m a b; omega
  · intro k a b; omega
  · intro c a b y; exact absurd y (nn c a)
  · intro k a b; omega
  · intro c a b
    have : c = 0 ∨ c = 1 ∨ c = 2 ∨ c = 3 ∨ c = 4 ∨ c = 5 ∨ c = 6 := by omega
    rcases this with y | y | y | y | y | y | y <;> subst y <;> exact ⟨⟨by decide +kernel, by decide +kernel⟩, ⟨by decide +kernel, by decide +kernel⟩⟩
  · intro c a b _
    exact z _ (by omega) (by omega) (by omega)
  · unfold Ct; omega
theorem lw_0 : LW 0 lI0 lP0 := by
  have s3 : lI0 0 3 = 0 := by decide +kernel
  have q4 : lI0 155 4 = 0 := by decide +kernel
  have q5 : lI0 155 5 = 0 := by decide +kernel
  have q7 : lI0 155 7 = 0 := by decide +kernel
  have t1 : lI0 52 1 = 0 := by decide +kernel
  refine ⟨1, 26, h0F, rma0, pw0, pr0, ?_, by omega, ?_, ?_, q5, ?_⟩
  · rw [show (1000 * ((0 : Nat) : Int)) = 0 by omega]; exact gs0
  · intro i a b; omega
  · unfold TX
    refine ⟨by omega, by omega, fun i a b => by omega, fun i a b => ?_⟩
    rw [(z53 i).1, (z53 i).2.1]; omega
  · intro c a b
    rw [(z53 c).2.2]; omega
