/-! the law: its loop and its start -/
section LAWB
variable {X : am_X} {w u : am_W} {c z i : Nat}
theorem sub7 {L : Nat} (hL : L ≤ 3584) (hi : i ≤ 3584) : (nI L - nI 7 < nI i) = (L < i + 7) := by
  rw [Int32.lt_iff_toInt_lt, nI_sub_toInt (by omega) (by decide), nI_toInt (by omega)]
  apply propext
  omega
theorem tsw0 : am_tsw 33 943 0 24 #[115, 178, 191, 204, 237, 270, 303, 336, 369, 402, 425, 458, 471, 484, 537, 600, 675, 738, 771, 784, 827, 860, 883, 906, 929] 0 = some 148 := by decide
theorem tsw1 : am_tsw 33 943 0 24 #[115, 178, 191, 204, 237, 270, 303, 336, 369, 402, 425, 458, 471, 484, 537, 600, 675, 738, 771, 784, 827, 860, 883, 906, 929] 1 = some 211 := by decide
theorem tsw2 : am_tsw 33 943 0 24 #[115, 178, 191, 204, 237, 270, 303, 336, 369, 402, 425, 458, 471, 484, 537, 600, 675, 738, 771, 784, 827, 860, 883, 906, 929] 2 = some 224 := by decide
theorem tsw3 : am_tsw 33 943 0 24 #[115, 178, 191, 204, 237, 270, 303, 336, 369, 402, 425, 458, 471, 484, 537, 600, 675, 738, 771, 784, 827, 860, 883, 906, 929] 3 = some 237 := by decide
theorem tsw4 : am_tsw 33 943 0 24 #[115, 178, 191, 204, 237, 270, 303, 336, 369, 402, 425, 458, 471, 484, 537, 600, 675, 738, 771, 784, 827, 860, 883, 906, 929] 4 = some 270 := by decide
theorem tsw5 : am_tsw 33 943 0 24 #[115, 178, 191, 204, 237, 270, 303, 336, 369, 402, 425, 458, 471, 484, 537, 600, 675, 738, 771, 784, 827, 860, 883, 906, 929] 5 = some 303 := by decide
theorem tsw6 : am_tsw 33 943 0 24 #[115, 178, 191, 204, 237, 270, 303, 336, 369, 402, 425, 458, 471, 484, 537, 600, 675, 738, 771, 784, 827, 860, 883, 906, 929] 6 = some 336 := by decide
theorem tsw7 : am_tsw 33 943 0 24 #[115, 178, 191, 204, 237, 270, 303, 336, 369, 402, 425, 458, 471, 484, 537, 600, 675, 738, 771, 784, 827, 860, 883, 906, 929] 7 = some 369 := by decide
theorem tsw8 : am_tsw 33 943 0 24 #[115, 178, 191, 204, 237, 270, 303, 336, 369, 402, 425, 458, 471, 484, 537, 600, 675, 738, 771, 784, 827, 860, 883, 906, 929] 8 = some 402 := by decide
theorem tsw9 : am_tsw 33 943 0 24 #[115, 178, 191, 204, 237, 270, 303, 336, 369, 402, 425, 458, 471, 484, 537, 600, 675, 738, 771, 784, 827, 860, 883, 906, 929] 9 = some 435 := by decide
theorem tsw10 : am_tsw 33 943 0 24 #[115, 178, 191, 204, 237, 270, 303, 336, 369, 402, 425, 458, 471, 484, 537, 600, 675, 738, 771, 784, 827, 860, 883, 906, 929] 10 = some 458 := by decide
theorem tsw11 : am_tsw 33 943 0 24 #[115, 178, 191, 204, 237, 270, 303, 336, 369, 402, 425, 458, 471, 484, 537, 600, 675, 738, 771, 784, 827, 860, 883, 906, 929] 11 = some 491 := by decide
theorem tsw12 : am_tsw 33 943 0 24 #[115, 178, 191, 204, 237, 270, 303, 336, 369, 402, 425, 458, 471, 484, 537, 600, 675, 738, 771, 784, 827, 860, 883, 906, 929] 12 = some 504 := by decide
theorem tsw13 : am_tsw 33 943 0 24 #[115, 178, 191, 204, 237, 270, 303, 336, 369, 402, 425, 458, 471, 484, 537, 600, 675, 738, 771, 784, 827, 860, 883, 906, 929] 13 = some 517 := by decide
theorem tsw14 : am_tsw 33 943 0 24 #[115, 178, 191, 204, 237, 270, 303, 336, 369, 402, 425, 458, 471, 484, 537, 600, 675, 738, 771, 784, 827, 860, 883, 906, 929] 14 = some 570 := by decide
theorem tsw15 : am_tsw 33 943 0 24 #[115, 178, 191, 204, 237, 270, 303, 336, 369, 402, 425, 458, 471, 484, 537, 600, 675, 738, 771, 784, 827, 860, 883, 906, 929] 15 = some 633 := by decide
theorem tsw16 : am_tsw 33 943 0 24 #[115, 178, 191, 204, 237, 270, 303, 336, 369, 402, 425, 458, 471, 484, 537, 600, 675, 738, 771, 784, 827, 860, 883, 906, 929] 16 = some 708 := by decide
theorem tsw17 : am_tsw 33 943 0 24 #[115, 178, 191, 204, 237, 270, 303, 336, 369, 402, 425, 458, 471, 484, 537, 600, 675, 738, 771, 784, 827, 860, 883, 906, 929] 17 = some 771 := by decide
theorem tsw18 : am_tsw 33 943 0 24 #[115, 178, 191, 204, 237, 270, 303, 336, 369, 402, 425, 458, 471, 484, 537, 600, 675, 738, 771, 784, 827, 860, 883, 906, 929] 18 = some 804 := by decide
theorem tsw19 : am_tsw 33 943 0 24 #[115, 178, 191, 204, 237, 270, 303, 336, 369, 402, 425, 458, 471, 484, 537, 600, 675, 738, 771, 784, 827, 860, 883, 906, 929] 19 = some 817 := by decide
theorem tsw20 : am_tsw 33 943 0 24 #[115, 178, 191, 204, 237, 270, 303, 336, 369, 402, 425, 458, 471, 484, 537, 600, 675, 738, 771, 784, 827, 860, 883, 906, 929] 20 = some 860 := by decide
theorem tsw21 : am_tsw 33 943 0 24 #[115, 178, 191, 204, 237, 270, 303, 336, 369, 402, 425, 458, 471, 484, 537, 600, 675, 738, 771, 784, 827, 860, 883, 906, 929] 21 = some 893 := by decide
theorem tsw22 : am_tsw 33 943 0 24 #[115, 178, 191, 204, 237, 270, 303, 336, 369, 402, 425, 458, 471, 484, 537, 600, 675, 738, 771, 784, 827, 860, 883, 906, 929] 22 = some 916 := by decide
theorem tsw23 : am_tsw 33 943 0 24 #[115, 178, 191, 204, 237, 270, 303, 336, 369, 402, 425, 458, 471, 484, 537, 600, 675, 738, 771, 784, 827, 860, 883, 906, 929] 23 = some 939 := by decide
theorem tsw24 : am_tsw 33 943 0 24 #[115, 178, 191, 204, 237, 270, 303, 336, 369, 402, 425, 458, 471, 484, 537, 600, 675, 738, 771, 784, 827, 860, 883, 906, 929] 24 = some 962 := by decide
theorem tswD {x : Int} (h : x < 0 ∨ 24 < x) : am_tsw 33 943 0 24 #[115, 178, 191, 204, 237, 270, 303, 336, 369, 402, 425, 458, 471, 484, 537, 600, 675, 738, 771, 784, 827, 860, 883, 906, 929] x = some 976 := by
  unfold am_tsw
  rw [if_pos h]
  rfl
theorem lw_loop (hL : X.1 ≤ 3584) (hc : c ≤ pm_c 153) (hz : z ≤ pm_z 153) : ∀ (n i : Nat) (w : am_W), X.1 ≤ i + n → i ≤ 3584 → LInv w → Wp X (Cl X 30) 153 (fun r _ => r = some (.int 1)) (18, [some (.ref 1000), some (.ref 0), some (.ref 57), some (.int (nI i))], [], w, c, z)
  | n, i, w, hn, h4, I => by
    rw [s153_18]
    simp only [s153_19, s153_20, s153_21, s153_23, s153_24, OpV_some, OpN_some, OpA_some, OpR_some, Option.toList_some, Option.toList_none, List.cons_append, List.nil_append, true_and, and_true, nI11, or_true, true_or, or_false, false_or, xa, sub7 hL h4]
    by_cases q : X.1 < i + 7
    · simp only [eq_true q, if_true, s153_982, s153_983, OpV_some, OpN_some, OpA_some, OpR_some, Option.toList_some, Option.toList_none, List.cons_append, List.nil_append, true_and, and_true, nI11, or_true, true_or, or_false, false_or, hc, hz]
      first | rfl | decide
    · simp only [eq_false q, if_false, s153_27, s153_28, s153_29, s153_30, s153_32, s153_33, OpV_some, OpN_some, OpA_some, OpR_some, Option.toList_some, Option.toList_none, List.cons_append, List.nil_append, true_and, and_true, nI11, or_true, true_or, or_false, false_or, xa, in_nI (show i < X.1 by omega) (show X.1 < 2 ^ 31 by omega)]
      obtain ⟨m, rfl⟩ : ∃ m, n = m + 1 := ⟨n - 1, by omega⟩
      have hi : i + 7 ≤ X.1 := by omega
      have ih := fun v hv => lw_loop hL hc hz m (i + 7) v (by omega) (by omega) hv
      generalize (X.2 (nI i).toNatClampNeg &&& nI 31).toInt = x
      have cs : (x < 0 ∨ 24 < x) ∨ x = 0 ∨ x = 1 ∨ x = 2 ∨ x = 3 ∨ x = 4 ∨ x = 5 ∨ x = 6 ∨ x = 7 ∨ x = 8 ∨ x = 9 ∨ x = 10 ∨ x = 11 ∨ x = 12 ∨ x = 13 ∨ x = 14 ∨ x = 15 ∨ x = 16 ∨ x = 17 ∨ x = 18 ∨ x = 19 ∨ x = 20 ∨ x = 21 ∨ x = 22 ∨ x = 23 ∨ x = 24 := by omega
      rcases cs with h | rfl | rfl | rfl | rfl | rfl | rfl | rfl | rfl | rfl | rfl | rfl | rfl | rfl | rfl | rfl | rfl | rfl | rfl | rfl | rfl | rfl | rfl | rfl | rfl | rfl
      · simp only [tswD h, OpN_some, s153_976, s153_979, nI_add]
        exact ih w I
      · simp only [tsw0, OpN_some]
        exact lw_type I hL hi hc hz ih
      · simp only [tsw1, OpN_some]
        exact lw_clear I hL hi hc hz ih
      · simp only [tsw2, OpN_some]
        exact lw_city I hL hi hc hz ih
      · simp only [tsw3, OpN_some]
        exact lw_sill I hL hi hc hz ih
      · simp only [tsw4, OpN_some]
        exact lw_rope I hL hi hc hz ih
      · simp only [tsw5, OpN_some]
        exact lw_rider I hL hi hc hz ih
      · simp only [tsw6, OpN_some]
        exact lw_open I hL hi hc hz ih
      · simp only [tsw7, OpN_some]
        exact lw_go I hL hi hc hz ih
      · simp only [tsw8, OpN_some]
        exact lw_waits I hL hi hc hz ih
      · simp only [tsw9, OpN_some]
        exact lw_stop I hL hi hc hz ih
      · simp only [tsw10, OpN_some]
        exact lw_push I hL hi hc hz ih
      · simp only [tsw11, OpN_some]
        exact lw_undo I hL hi hc hz ih
      · simp only [tsw12, OpN_some]
        exact lw_meets I hL hi hc hz ih
      · simp only [tsw13, OpN_some]
        exact lw_soonest I hL hi hc hz ih
      · simp only [tsw14, OpN_some]
        exact lw_route I hL hi hc hz ih
      · simp only [tsw15, OpN_some]
        exact lw_drift I hL hi hc hz ih
      · simp only [tsw16, OpN_some]
        exact lw_tune I hL hi hc hz ih
      · simp only [tsw17, OpN_some]
        exact lw_saw I hL hi hc hz ih
      · simp only [tsw18, OpN_some]
        exact lw_forget I hL hi hc hz ih
      · simp only [tsw19, OpN_some]
        exact lw_fits I hL hi hc hz ih
      · simp only [tsw20, OpN_some]
        exact lw_rate I hL hi hc hz ih
      · simp only [tsw21, OpN_some]
        exact lw_keep I hL hi hc hz ih
      · simp only [tsw22, OpN_some]
        exact lw_back I hL hi hc hz ih
      · simp only [tsw23, OpN_some]
        exact lw_count I hL hi hc hz ih
      · simp only [tsw24, OpN_some]
        exact lw_trace I hL hi hc hz ih
theorem lw_start (hL : X.1 ≤ 3584) : Wp X (Cl X 30) 153 (fun r _ => r = some (.int 1)) (0, [some (.ref 1000), none, none, none], [], [], 0, 0) := by
  have e1 : ([] : am_W).length = 0 := rfl
  have q1 : pm_c 153 = 600000 := rfl
  have q2 : pm_z 153 = 7302250 := rfl
  simp only [s153_0, s153_3, s153_4, e1, List.nil_append, Nat.zero_add, q1, q2]
  refine ⟨by decide, by decide, by decide, by decide, ?_⟩
  refine c_init (d := 24) fun u C hu => ?_
  simp only [s153_7, s153_8, s153_11, s153_12, OpV_some, OpN_some, OpA_some, OpR_some, Option.toList_some, Option.toList_none, List.cons_append, List.nil_append, true_and, and_true, nI11, or_true, true_or, or_false, false_or, hu, q1, q2]
  refine ⟨by decide, by decide, by decide, by decide, ?_⟩
  refine m_init (d := 29) hu C fun v I => ?_
  simp only [s153_15, s153_16, s153_17, OpV_some, OpN_some, OpA_some, OpR_some, Option.toList_some, Option.toList_none, List.cons_append, List.nil_append, true_and, and_true, nI11, or_true, true_or, or_false, false_or]
  exact lw_loop hL (by rw [q1]; decide) (by rw [q2]; decide) X.1 0 v (by omega) (by omega) I
end LAWB
