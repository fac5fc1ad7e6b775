/-! ===== the rows of the sizes 1 to 5 are what the functions of lists give ===== -/
theorem gP_1 : lpP 1 dF 0 0 (List.replicate 1 0) = some (tP 1) := by decide +kernel
theorem gO_1 : lpO 1 dF 0 (List.replicate 1 0) = some (tO 1) := by decide +kernel
theorem gI_1_0 : lpI (fam (sf 0) (tP 1) (tO 1)) (fam (st 0) (tP 1) (tO 1)) 0 1 dF 0 (List.replicate 1 0) = some (tI 1 0) := by decide +kernel
theorem gI_1_1 : lpI (fam (sf 1) (tP 1) (tO 1)) (fam (st 1) (tP 1) (tO 1)) 1 1 dF 0 (List.replicate 1 0) = some (tI 1 1) := by decide +kernel
theorem gI_1_2 : lpI (fam (sf 2) (tP 1) (tO 1)) (fam (st 2) (tP 1) (tO 1)) 2 1 dF 0 (List.replicate 1 0) = some (tI 1 2) := by decide +kernel
theorem gI_1_3 : lpI (fam (sf 3) (tP 1) (tO 1)) (fam (st 3) (tP 1) (tO 1)) 3 1 dF 0 (List.replicate 1 0) = some (tI 1 3) := by decide +kernel
theorem gI_1_4 : lpI (fam (sf 4) (tP 1) (tO 1)) (fam (st 4) (tP 1) (tO 1)) 4 1 dF 0 (List.replicate 1 0) = some (tI 1 4) := by decide +kernel
theorem gI_1_5 : lpI (fam (sf 5) (tP 1) (tO 1)) (fam (st 5) (tP 1) (tO 1)) 5 1 dF 0 (List.replicate 1 0) = some (tI 1 5) := by decide +kernel
theorem gI_1_6 : lpI (fam (sf 6) (tP 1) (tO 1)) (fam (st 6) (tP 1) (tO 1)) 6 1 dF 0 (List.replicate 1 0) = some (tI 1 6) := by decide +kernel
theorem gI_1_7 : lpI (fam (sf 7) (tP 1) (tO 1)) (fam (st 7) (tP 1) (tO 1)) 7 1 dF 0 (List.replicate 1 0) = some (tI 1 7) := by decide +kernel
theorem gI_1_8 : lpI (fam (sf 8) (tP 1) (tO 1)) (fam (st 8) (tP 1) (tO 1)) 8 1 dF 0 (List.replicate 1 0) = some (tI 1 8) := by decide +kernel
theorem gI_1_9 : lpI (fam (sf 9) (tP 1) (tO 1)) (fam (st 9) (tP 1) (tO 1)) 9 1 dF 0 (List.replicate 1 0) = some (tI 1 9) := by decide +kernel
theorem gI_1_10 : lpI (fam (sf 10) (tP 1) (tO 1)) (fam (st 10) (tP 1) (tO 1)) 10 1 dF 0 (List.replicate 1 0) = some (tI 1 10) := by decide +kernel
theorem gV_1_0_0 : lpV (fam 0 (tP 1) (tO 1)) 0 0 1 dF 0 (List.replicate 1 0) (List.replicate 37 0) = some (tV 1 (0 * 4 + 0), tC 1 (0 * 4 + 0)) := by decide +kernel
theorem gV_1_0_1 : lpV (fam 0 (tP 1) (tO 1)) 0 1 1 dF 0 (List.replicate 1 0) (List.replicate 37 0) = some (tV 1 (0 * 4 + 1), tC 1 (0 * 4 + 1)) := by decide +kernel
theorem gV_1_0_2 : lpV (fam 0 (tP 1) (tO 1)) 0 2 1 dF 0 (List.replicate 1 0) (List.replicate 37 0) = some (tV 1 (0 * 4 + 2), tC 1 (0 * 4 + 2)) := by decide +kernel
theorem gV_1_0_3 : lpV (fam 0 (tP 1) (tO 1)) 0 3 1 dF 0 (List.replicate 1 0) (List.replicate 37 0) = some (tV 1 (0 * 4 + 3), tC 1 (0 * 4 + 3)) := by decide +kernel
theorem gV_1_1_0 : lpV (fam 1 (tP 1) (tO 1)) 1 0 1 dF 0 (List.replicate 1 0) (List.replicate 37 0) = some (tV 1 (1 * 4 + 0), tC 1 (1 * 4 + 0)) := by decide +kernel
theorem gV_1_1_1 : lpV (fam 1 (tP 1) (tO 1)) 1 1 1 dF 0 (List.replicate 1 0) (List.replicate 37 0) = some (tV 1 (1 * 4 + 1), tC 1 (1 * 4 + 1)) := by decide +kernel
theorem gV_1_1_2 : lpV (fam 1 (tP 1) (tO 1)) 1 2 1 dF 0 (List.replicate 1 0) (List.replicate 37 0) = some (tV 1 (1 * 4 + 2), tC 1 (1 * 4 + 2)) := by decide +kernel
theorem gV_1_1_3 : lpV (fam 1 (tP 1) (tO 1)) 1 3 1 dF 0 (List.replicate 1 0) (List.replicate 37 0) = some (tV 1 (1 * 4 + 3), tC 1 (1 * 4 + 3)) := by decide +kernel
theorem gV_1_2_0 : lpV (fam 2 (tP 1) (tO 1)) 2 0 1 dF 0 (List.replicate 1 0) (List.replicate 37 0) = some (tV 1 (2 * 4 + 0), tC 1 (2 * 4 + 0)) := by decide +kernel
theorem gV_1_2_1 : lpV (fam 2 (tP 1) (tO 1)) 2 1 1 dF 0 (List.replicate 1 0) (List.replicate 37 0) = some (tV 1 (2 * 4 + 1), tC 1 (2 * 4 + 1)) := by decide +kernel
theorem gV_1_2_2 : lpV (fam 2 (tP 1) (tO 1)) 2 2 1 dF 0 (List.replicate 1 0) (List.replicate 37 0) = some (tV 1 (2 * 4 + 2), tC 1 (2 * 4 + 2)) := by decide +kernel
theorem gV_1_2_3 : lpV (fam 2 (tP 1) (tO 1)) 2 3 1 dF 0 (List.replicate 1 0) (List.replicate 37 0) = some (tV 1 (2 * 4 + 3), tC 1 (2 * 4 + 3)) := by decide +kernel
theorem good_1 : Good 1 1 1 (tP 1) (tO 1) (tI 1) (tV 1) (tC 1) := ⟨⟨by decide, by decide +kernel, by decide +kernel, by decide +kernel, by decide, by decide⟩, ⟨gP_1, gO_1, by decide +kernel, by decide +kernel, (show ∀ x ∈ tP 1, x < 4294967296 by decide +kernel), (show ∀ x ∈ tO 1, x < 4294967296 by decide +kernel)⟩, lt_s (lt_s (lt_s (lt_s (lt_s (lt_s (lt_s (lt_s (lt_s (lt_s (lt_s (lt_0) gI_1_0) gI_1_1) gI_1_2) gI_1_3) gI_1_4) gI_1_5) gI_1_6) gI_1_7) gI_1_8) gI_1_9) gI_1_10, fun f w hf hw => (show ∀ f, f < 3 → ∀ w, w < 4 → lpV (fam f (tP 1) (tO 1)) f w 1 dF 0 (List.replicate 1 0) (List.replicate 37 0) = some (tV 1 (f * 4 + w), tC 1 (f * 4 + w)) from lt_s (lt_s (lt_s (lt_0) (show ∀ w, w < 4 → lpV (fam 0 (tP 1) (tO 1)) 0 w 1 dF 0 (List.replicate 1 0) (List.replicate 37 0) = some (tV 1 (0 * 4 + w), tC 1 (0 * 4 + w)) from lt_s (lt_s (lt_s (lt_s (lt_0) gV_1_0_0) gV_1_0_1) gV_1_0_2) gV_1_0_3)) (show ∀ w, w < 4 → lpV (fam 1 (tP 1) (tO 1)) 1 w 1 dF 0 (List.replicate 1 0) (List.replicate 37 0) = some (tV 1 (1 * 4 + w), tC 1 (1 * 4 + w)) from lt_s (lt_s (lt_s (lt_s (lt_0) gV_1_1_0) gV_1_1_1) gV_1_1_2) gV_1_1_3)) (show ∀ w, w < 4 → lpV (fam 2 (tP 1) (tO 1)) 2 w 1 dF 0 (List.replicate 1 0) (List.replicate 37 0) = some (tV 1 (2 * 4 + w), tC 1 (2 * 4 + w)) from lt_s (lt_s (lt_s (lt_s (lt_0) gV_1_2_0) gV_1_2_1) gV_1_2_2) gV_1_2_3)) f hf w hw⟩
theorem gP_2 : lpP 2 dF 0 0 (List.replicate 2 0) = some (tP 2) := by decide +kernel
theorem gO_2 : lpO 2 dF 0 (List.replicate 2 0) = some (tO 2) := by decide +kernel
theorem gI_2_0 : lpI (fam (sf 0) (tP 2) (tO 2)) (fam (st 0) (tP 2) (tO 2)) 0 2 dF 0 (List.replicate 2 0) = some (tI 2 0) := by decide +kernel
theorem gI_2_1 : lpI (fam (sf 1) (tP 2) (tO 2)) (fam (st 1) (tP 2) (tO 2)) 1 2 dF 0 (List.replicate 2 0) = some (tI 2 1) := by decide +kernel
theorem gI_2_2 : lpI (fam (sf 2) (tP 2) (tO 2)) (fam (st 2) (tP 2) (tO 2)) 2 2 dF 0 (List.replicate 2 0) = some (tI 2 2) := by decide +kernel
theorem gI_2_3 : lpI (fam (sf 3) (tP 2) (tO 2)) (fam (st 3) (tP 2) (tO 2)) 3 2 dF 0 (List.replicate 2 0) = some (tI 2 3) := by decide +kernel
theorem gI_2_4 : lpI (fam (sf 4) (tP 2) (tO 2)) (fam (st 4) (tP 2) (tO 2)) 4 2 dF 0 (List.replicate 2 0) = some (tI 2 4) := by decide +kernel
theorem gI_2_5 : lpI (fam (sf 5) (tP 2) (tO 2)) (fam (st 5) (tP 2) (tO 2)) 5 2 dF 0 (List.replicate 2 0) = some (tI 2 5) := by decide +kernel
theorem gI_2_6 : lpI (fam (sf 6) (tP 2) (tO 2)) (fam (st 6) (tP 2) (tO 2)) 6 2 dF 0 (List.replicate 2 0) = some (tI 2 6) := by decide +kernel
theorem gI_2_7 : lpI (fam (sf 7) (tP 2) (tO 2)) (fam (st 7) (tP 2) (tO 2)) 7 2 dF 0 (List.replicate 2 0) = some (tI 2 7) := by decide +kernel
theorem gI_2_8 : lpI (fam (sf 8) (tP 2) (tO 2)) (fam (st 8) (tP 2) (tO 2)) 8 2 dF 0 (List.replicate 2 0) = some (tI 2 8) := by decide +kernel
theorem gI_2_9 : lpI (fam (sf 9) (tP 2) (tO 2)) (fam (st 9) (tP 2) (tO 2)) 9 2 dF 0 (List.replicate 2 0) = some (tI 2 9) := by decide +kernel
theorem gI_2_10 : lpI (fam (sf 10) (tP 2) (tO 2)) (fam (st 10) (tP 2) (tO 2)) 10 2 dF 0 (List.replicate 2 0) = some (tI 2 10) := by decide +kernel
theorem gV_2_0_0 : lpV (fam 0 (tP 2) (tO 2)) 0 0 2 dF 0 (List.replicate 2 0) (List.replicate 37 0) = some (tV 2 (0 * 4 + 0), tC 2 (0 * 4 + 0)) := by decide +kernel
theorem gV_2_0_1 : lpV (fam 0 (tP 2) (tO 2)) 0 1 2 dF 0 (List.replicate 2 0) (List.replicate 37 0) = some (tV 2 (0 * 4 + 1), tC 2 (0 * 4 + 1)) := by decide +kernel
theorem gV_2_0_2 : lpV (fam 0 (tP 2) (tO 2)) 0 2 2 dF 0 (List.replicate 2 0) (List.replicate 37 0) = some (tV 2 (0 * 4 + 2), tC 2 (0 * 4 + 2)) := by decide +kernel
theorem gV_2_0_3 : lpV (fam 0 (tP 2) (tO 2)) 0 3 2 dF 0 (List.replicate 2 0) (List.replicate 37 0) = some (tV 2 (0 * 4 + 3), tC 2 (0 * 4 + 3)) := by decide +kernel
theorem gV_2_1_0 : lpV (fam 1 (tP 2) (tO 2)) 1 0 2 dF 0 (List.replicate 2 0) (List.replicate 37 0) = some (tV 2 (1 * 4 + 0), tC 2 (1 * 4 + 0)) := by decide +kernel
theorem gV_2_1_1 : lpV (fam 1 (tP 2) (tO 2)) 1 1 2 dF 0 (List.replicate 2 0) (List.replicate 37 0) = some (tV 2 (1 * 4 + 1), tC 2 (1 * 4 + 1)) := by decide +kernel
theorem gV_2_1_2 : lpV (fam 1 (tP 2) (tO 2)) 1 2 2 dF 0 (List.replicate 2 0) (List.replicate 37 0) = some (tV 2 (1 * 4 + 2), tC 2 (1 * 4 + 2)) := by decide +kernel
theorem gV_2_1_3 : lpV (fam 1 (tP 2) (tO 2)) 1 3 2 dF 0 (List.replicate 2 0) (List.replicate 37 0) = some (tV 2 (1 * 4 + 3), tC 2 (1 * 4 + 3)) := by decide +kernel
theorem gV_2_2_0 : lpV (fam 2 (tP 2) (tO 2)) 2 0 2 dF 0 (List.replicate 2 0) (List.replicate 37 0) = some (tV 2 (2 * 4 + 0), tC 2 (2 * 4 + 0)) := by decide +kernel
theorem gV_2_2_1 : lpV (fam 2 (tP 2) (tO 2)) 2 1 2 dF 0 (List.replicate 2 0) (List.replicate 37 0) = some (tV 2 (2 * 4 + 1), tC 2 (2 * 4 + 1)) := by decide +kernel
theorem gV_2_2_2 : lpV (fam 2 (tP 2) (tO 2)) 2 2 2 dF 0 (List.replicate 2 0) (List.replicate 37 0) = some (tV 2 (2 * 4 + 2), tC 2 (2 * 4 + 2)) := by decide +kernel
theorem gV_2_2_3 : lpV (fam 2 (tP 2) (tO 2)) 2 3 2 dF 0 (List.replicate 2 0) (List.replicate 37 0) = some (tV 2 (2 * 4 + 3), tC 2 (2 * 4 + 3)) := by decide +kernel
theorem good_2 : Good 2 2 2 (tP 2) (tO 2) (tI 2) (tV 2) (tC 2) := ⟨⟨by decide, by decide +kernel, by decide +kernel, by decide +kernel, by decide, by decide⟩, ⟨gP_2, gO_2, by decide +kernel, by decide +kernel, (show ∀ x ∈ tP 2, x < 4294967296 by decide +kernel), (show ∀ x ∈ tO 2, x < 4294967296 by decide +kernel)⟩, lt_s (lt_s (lt_s (lt_s (lt_s (lt_s (lt_s (lt_s (lt_s (lt_s (lt_s (lt_0) gI_2_0) gI_2_1) gI_2_2) gI_2_3) gI_2_4) gI_2_5) gI_2_6) gI_2_7) gI_2_8) gI_2_9) gI_2_10, fun f w hf hw => (show ∀ f, f < 3 → ∀ w, w < 4 → lpV (fam f (tP 2) (tO 2)) f w 2 dF 0 (List.replicate 2 0) (List.replicate 37 0) = some (tV 2 (f * 4 + w), tC 2 (f * 4 + w)) from lt_s (lt_s (lt_s (lt_0) (show ∀ w, w < 4 → lpV (fam 0 (tP 2) (tO 2)) 0 w 2 dF 0 (List.replicate 2 0) (List.replicate 37 0) = some (tV 2 (0 * 4 + w), tC 2 (0 * 4 + w)) from lt_s (lt_s (lt_s (lt_s (lt_0) gV_2_0_0) gV_2_0_1) gV_2_0_2) gV_2_0_3)) (show ∀ w, w < 4 → lpV (fam 1 (tP 2) (tO 2)) 1 w 2 dF 0 (List.replicate 2 0) (List.replicate 37 0) = some (tV 2 (1 * 4 + w), tC 2 (1 * 4 + w)) from lt_s (lt_s (lt_s (lt_s (lt_0) gV_2_1_0) gV_2_1_1) gV_2_1_2) gV_2_1_3)) (show ∀ w, w < 4 → lpV (fam 2 (tP 2) (tO 2)) 2 w 2 dF 0 (List.replicate 2 0) (List.replicate 37 0) = some (tV 2 (2 * 4 + w), tC 2 (2 * 4 + w)) from lt_s (lt_s (lt_s (lt_s (lt_0) gV_2_2_0) gV_2_2_1) gV_2_2_2) gV_2_2_3)) f hf w hw⟩
theorem gP_3 : lpP 3 dF 0 0 (List.replicate 5 0) = some (tP 3) := by decide +kernel
theorem gO_3 : lpO 3 dF 0 (List.replicate 6 0) = some (tO 3) := by decide +kernel
theorem gI_3_0 : lpI (fam (sf 0) (tP 3) (tO 3)) (fam (st 0) (tP 3) (tO 3)) 0 3 dF 0 (List.replicate 6 0) = some (tI 3 0) := by decide +kernel
theorem gI_3_1 : lpI (fam (sf 1) (tP 3) (tO 3)) (fam (st 1) (tP 3) (tO 3)) 1 3 dF 0 (List.replicate 6 0) = some (tI 3 1) := by decide +kernel
theorem gI_3_2 : lpI (fam (sf 2) (tP 3) (tO 3)) (fam (st 2) (tP 3) (tO 3)) 2 3 dF 0 (List.replicate 6 0) = some (tI 3 2) := by decide +kernel
theorem gI_3_3 : lpI (fam (sf 3) (tP 3) (tO 3)) (fam (st 3) (tP 3) (tO 3)) 3 3 dF 0 (List.replicate 6 0) = some (tI 3 3) := by decide +kernel
theorem gI_3_4 : lpI (fam (sf 4) (tP 3) (tO 3)) (fam (st 4) (tP 3) (tO 3)) 4 3 dF 0 (List.replicate 6 0) = some (tI 3 4) := by decide +kernel
theorem gI_3_5 : lpI (fam (sf 5) (tP 3) (tO 3)) (fam (st 5) (tP 3) (tO 3)) 5 3 dF 0 (List.replicate 6 0) = some (tI 3 5) := by decide +kernel
theorem gI_3_6 : lpI (fam (sf 6) (tP 3) (tO 3)) (fam (st 6) (tP 3) (tO 3)) 6 3 dF 0 (List.replicate 6 0) = some (tI 3 6) := by decide +kernel
theorem gI_3_7 : lpI (fam (sf 7) (tP 3) (tO 3)) (fam (st 7) (tP 3) (tO 3)) 7 3 dF 0 (List.replicate 6 0) = some (tI 3 7) := by decide +kernel
theorem gI_3_8 : lpI (fam (sf 8) (tP 3) (tO 3)) (fam (st 8) (tP 3) (tO 3)) 8 3 dF 0 (List.replicate 6 0) = some (tI 3 8) := by decide +kernel
theorem gI_3_9 : lpI (fam (sf 9) (tP 3) (tO 3)) (fam (st 9) (tP 3) (tO 3)) 9 3 dF 0 (List.replicate 6 0) = some (tI 3 9) := by decide +kernel
theorem gI_3_10 : lpI (fam (sf 10) (tP 3) (tO 3)) (fam (st 10) (tP 3) (tO 3)) 10 3 dF 0 (List.replicate 6 0) = some (tI 3 10) := by decide +kernel
theorem gV_3_0_0 : lpV (fam 0 (tP 3) (tO 3)) 0 0 3 dF 0 (List.replicate 6 0) (List.replicate 37 0) = some (tV 3 (0 * 4 + 0), tC 3 (0 * 4 + 0)) := by decide +kernel
theorem gV_3_0_1 : lpV (fam 0 (tP 3) (tO 3)) 0 1 3 dF 0 (List.replicate 6 0) (List.replicate 37 0) = some (tV 3 (0 * 4 + 1), tC 3 (0 * 4 + 1)) := by decide +kernel
theorem gV_3_0_2 : lpV (fam 0 (tP 3) (tO 3)) 0 2 3 dF 0 (List.replicate 6 0) (List.replicate 37 0) = some (tV 3 (0 * 4 + 2), tC 3 (0 * 4 + 2)) := by decide +kernel
theorem gV_3_0_3 : lpV (fam 0 (tP 3) (tO 3)) 0 3 3 dF 0 (List.replicate 6 0) (List.replicate 37 0) = some (tV 3 (0 * 4 + 3), tC 3 (0 * 4 + 3)) := by decide +kernel
theorem gV_3_1_0 : lpV (fam 1 (tP 3) (tO 3)) 1 0 3 dF 0 (List.replicate 6 0) (List.replicate 37 0) = some (tV 3 (1 * 4 + 0), tC 3 (1 * 4 + 0)) := by decide +kernel
theorem gV_3_1_1 : lpV (fam 1 (tP 3) (tO 3)) 1 1 3 dF 0 (List.replicate 6 0) (List.replicate 37 0) = some (tV 3 (1 * 4 + 1), tC 3 (1 * 4 + 1)) := by decide +kernel
theorem gV_3_1_2 : lpV (fam 1 (tP 3) (tO 3)) 1 2 3 dF 0 (List.replicate 6 0) (List.replicate 37 0) = some (tV 3 (1 * 4 + 2), tC 3 (1 * 4 + 2)) := by decide +kernel
theorem gV_3_1_3 : lpV (fam 1 (tP 3) (tO 3)) 1 3 3 dF 0 (List.replicate 6 0) (List.replicate 37 0) = some (tV 3 (1 * 4 + 3), tC 3 (1 * 4 + 3)) := by decide +kernel
theorem gV_3_2_0 : lpV (fam 2 (tP 3) (tO 3)) 2 0 3 dF 0 (List.replicate 6 0) (List.replicate 37 0) = some (tV 3 (2 * 4 + 0), tC 3 (2 * 4 + 0)) := by decide +kernel
theorem gV_3_2_1 : lpV (fam 2 (tP 3) (tO 3)) 2 1 3 dF 0 (List.replicate 6 0) (List.replicate 37 0) = some (tV 3 (2 * 4 + 1), tC 3 (2 * 4 + 1)) := by decide +kernel
theorem gV_3_2_2 : lpV (fam 2 (tP 3) (tO 3)) 2 2 3 dF 0 (List.replicate 6 0) (List.replicate 37 0) = some (tV 3 (2 * 4 + 2), tC 3 (2 * 4 + 2)) := by decide +kernel
theorem gV_3_2_3 : lpV (fam 2 (tP 3) (tO 3)) 2 3 3 dF 0 (List.replicate 6 0) (List.replicate 37 0) = some (tV 3 (2 * 4 + 3), tC 3 (2 * 4 + 3)) := by decide +kernel
theorem good_3 : Good 3 5 6 (tP 3) (tO 3) (tI 3) (tV 3) (tC 3) := ⟨⟨by decide, by decide +kernel, by decide +kernel, by decide +kernel, by decide, by decide⟩, ⟨gP_3, gO_3, by decide +kernel, by decide +kernel, (show ∀ x ∈ tP 3, x < 4294967296 by decide +kernel), (show ∀ x ∈ tO 3, x < 4294967296 by decide +kernel)⟩, lt_s (lt_s (lt_s (lt_s (lt_s (lt_s (lt_s (lt_s (lt_s (lt_s (lt_s (lt_0) gI_3_0) gI_3_1) gI_3_2) gI_3_3) gI_3_4) gI_3_5) gI_3_6) gI_3_7) gI_3_8) gI_3_9) gI_3_10, fun f w hf hw => (show ∀ f, f < 3 → ∀ w, w < 4 → lpV (fam f (tP 3) (tO 3)) f w 3 dF 0 (List.replicate 6 0) (List.replicate 37 0) = some (tV 3 (f * 4 + w), tC 3 (f * 4 + w)) from lt_s (lt_s (lt_s (lt_0) (show ∀ w, w < 4 → lpV (fam 0 (tP 3) (tO 3)) 0 w 3 dF 0 (List.replicate 6 0) (List.replicate 37 0) = some (tV 3 (0 * 4 + w), tC 3 (0 * 4 + w)) from lt_s (lt_s (lt_s (lt_s (lt_0) gV_3_0_0) gV_3_0_1) gV_3_0_2) gV_3_0_3)) (show ∀ w, w < 4 → lpV (fam 1 (tP 3) (tO 3)) 1 w 3 dF 0 (List.replicate 6 0) (List.replicate 37 0) = some (tV 3 (1 * 4 + w), tC 3 (1 * 4 + w)) from lt_s (lt_s (lt_s (lt_s (lt_0) gV_3_1_0) gV_3_1_1) gV_3_1_2) gV_3_1_3)) (show ∀ w, w < 4 → lpV (fam 2 (tP 3) (tO 3)) 2 w 3 dF 0 (List.replicate 6 0) (List.replicate 37 0) = some (tV 3 (2 * 4 + w), tC 3 (2 * 4 + w)) from lt_s (lt_s (lt_s (lt_s (lt_0) gV_3_2_0) gV_3_2_1) gV_3_2_2) gV_3_2_3)) f hf w hw⟩
theorem gP_4 : lpP 4 dF 0 0 (List.replicate 14 0) = some (tP 4) := by decide +kernel
theorem gO_4 : lpO 4 dF 0 (List.replicate 24 0) = some (tO 4) := by decide +kernel
theorem gI_4_0 : lpI (fam (sf 0) (tP 4) (tO 4)) (fam (st 0) (tP 4) (tO 4)) 0 4 dF 0 (List.replicate 24 0) = some (tI 4 0) := by decide +kernel
theorem gI_4_1 : lpI (fam (sf 1) (tP 4) (tO 4)) (fam (st 1) (tP 4) (tO 4)) 1 4 dF 0 (List.replicate 24 0) = some (tI 4 1) := by decide +kernel
theorem gI_4_2 : lpI (fam (sf 2) (tP 4) (tO 4)) (fam (st 2) (tP 4) (tO 4)) 2 4 dF 0 (List.replicate 24 0) = some (tI 4 2) := by decide +kernel
theorem gI_4_3 : lpI (fam (sf 3) (tP 4) (tO 4)) (fam (st 3) (tP 4) (tO 4)) 3 4 dF 0 (List.replicate 24 0) = some (tI 4 3) := by decide +kernel
theorem gI_4_4 : lpI (fam (sf 4) (tP 4) (tO 4)) (fam (st 4) (tP 4) (tO 4)) 4 4 dF 0 (List.replicate 24 0) = some (tI 4 4) := by decide +kernel
theorem gI_4_5 : lpI (fam (sf 5) (tP 4) (tO 4)) (fam (st 5) (tP 4) (tO 4)) 5 4 dF 0 (List.replicate 24 0) = some (tI 4 5) := by decide +kernel
theorem gI_4_6 : lpI (fam (sf 6) (tP 4) (tO 4)) (fam (st 6) (tP 4) (tO 4)) 6 4 dF 0 (List.replicate 24 0) = some (tI 4 6) := by decide +kernel
theorem gI_4_7 : lpI (fam (sf 7) (tP 4) (tO 4)) (fam (st 7) (tP 4) (tO 4)) 7 4 dF 0 (List.replicate 24 0) = some (tI 4 7) := by decide +kernel
theorem gI_4_8 : lpI (fam (sf 8) (tP 4) (tO 4)) (fam (st 8) (tP 4) (tO 4)) 8 4 dF 0 (List.replicate 24 0) = some (tI 4 8) := by decide +kernel
theorem gI_4_9 : lpI (fam (sf 9) (tP 4) (tO 4)) (fam (st 9) (tP 4) (tO 4)) 9 4 dF 0 (List.replicate 24 0) = some (tI 4 9) := by decide +kernel
theorem gI_4_10 : lpI (fam (sf 10) (tP 4) (tO 4)) (fam (st 10) (tP 4) (tO 4)) 10 4 dF 0 (List.replicate 24 0) = some (tI 4 10) := by decide +kernel
theorem gV_4_0_0 : lpV (fam 0 (tP 4) (tO 4)) 0 0 4 dF 0 (List.replicate 24 0) (List.replicate 37 0) = some (tV 4 (0 * 4 + 0), tC 4 (0 * 4 + 0)) := by decide +kernel
theorem gV_4_0_1 : lpV (fam 0 (tP 4) (tO 4)) 0 1 4 dF 0 (List.replicate 24 0) (List.replicate 37 0) = some (tV 4 (0 * 4 + 1), tC 4 (0 * 4 + 1)) := by decide +kernel
theorem gV_4_0_2 : lpV (fam 0 (tP 4) (tO 4)) 0 2 4 dF 0 (List.replicate 24 0) (List.replicate 37 0) = some (tV 4 (0 * 4 + 2), tC 4 (0 * 4 + 2)) := by decide +kernel
theorem gV_4_0_3 : lpV (fam 0 (tP 4) (tO 4)) 0 3 4 dF 0 (List.replicate 24 0) (List.replicate 37 0) = some (tV 4 (0 * 4 + 3), tC 4 (0 * 4 + 3)) := by decide +kernel
theorem gV_4_1_0 : lpV (fam 1 (tP 4) (tO 4)) 1 0 4 dF 0 (List.replicate 24 0) (List.replicate 37 0) = some (tV 4 (1 * 4 + 0), tC 4 (1 * 4 + 0)) := by decide +kernel
theorem gV_4_1_1 : lpV (fam 1 (tP 4) (tO 4)) 1 1 4 dF 0 (List.replicate 24 0) (List.replicate 37 0) = some (tV 4 (1 * 4 + 1), tC 4 (1 * 4 + 1)) := by decide +kernel
theorem gV_4_1_2 : lpV (fam 1 (tP 4) (tO 4)) 1 2 4 dF 0 (List.replicate 24 0) (List.replicate 37 0) = some (tV 4 (1 * 4 + 2), tC 4 (1 * 4 + 2)) := by decide +kernel
theorem gV_4_1_3 : lpV (fam 1 (tP 4) (tO 4)) 1 3 4 dF 0 (List.replicate 24 0) (List.replicate 37 0) = some (tV 4 (1 * 4 + 3), tC 4 (1 * 4 + 3)) := by decide +kernel
theorem gV_4_2_0 : lpV (fam 2 (tP 4) (tO 4)) 2 0 4 dF 0 (List.replicate 24 0) (List.replicate 37 0) = some (tV 4 (2 * 4 + 0), tC 4 (2 * 4 + 0)) := by decide +kernel
theorem gV_4_2_1 : lpV (fam 2 (tP 4) (tO 4)) 2 1 4 dF 0 (List.replicate 24 0) (List.replicate 37 0) = some (tV 4 (2 * 4 + 1), tC 4 (2 * 4 + 1)) := by decide +kernel
theorem gV_4_2_2 : lpV (fam 2 (tP 4) (tO 4)) 2 2 4 dF 0 (List.replicate 24 0) (List.replicate 37 0) = some (tV 4 (2 * 4 + 2), tC 4 (2 * 4 + 2)) := by decide +kernel
theorem gV_4_2_3 : lpV (fam 2 (tP 4) (tO 4)) 2 3 4 dF 0 (List.replicate 24 0) (List.replicate 37 0) = some (tV 4 (2 * 4 + 3), tC 4 (2 * 4 + 3)) := by decide +kernel
theorem good_4 : Good 4 14 24 (tP 4) (tO 4) (tI 4) (tV 4) (tC 4) := ⟨⟨by decide, by decide +kernel, by decide +kernel, by decide +kernel, by decide, by decide⟩, ⟨gP_4, gO_4, by decide +kernel, by decide +kernel, (show ∀ x ∈ tP 4, x < 4294967296 by decide +kernel), (show ∀ x ∈ tO 4, x < 4294967296 by decide +kernel)⟩, lt_s (lt_s (lt_s (lt_s (lt_s (lt_s (lt_s (lt_s (lt_s (lt_s (lt_s (lt_0) gI_4_0) gI_4_1) gI_4_2) gI_4_3) gI_4_4) gI_4_5) gI_4_6) gI_4_7) gI_4_8) gI_4_9) gI_4_10, fun f w hf hw => (show ∀ f, f < 3 → ∀ w, w < 4 → lpV (fam f (tP 4) (tO 4)) f w 4 dF 0 (List.replicate 24 0) (List.replicate 37 0) = some (tV 4 (f * 4 + w), tC 4 (f * 4 + w)) from lt_s (lt_s (lt_s (lt_0) (show ∀ w, w < 4 → lpV (fam 0 (tP 4) (tO 4)) 0 w 4 dF 0 (List.replicate 24 0) (List.replicate 37 0) = some (tV 4 (0 * 4 + w), tC 4 (0 * 4 + w)) from lt_s (lt_s (lt_s (lt_s (lt_0) gV_4_0_0) gV_4_0_1) gV_4_0_2) gV_4_0_3)) (show ∀ w, w < 4 → lpV (fam 1 (tP 4) (tO 4)) 1 w 4 dF 0 (List.replicate 24 0) (List.replicate 37 0) = some (tV 4 (1 * 4 + w), tC 4 (1 * 4 + w)) from lt_s (lt_s (lt_s (lt_s (lt_0) gV_4_1_0) gV_4_1_1) gV_4_1_2) gV_4_1_3)) (show ∀ w, w < 4 → lpV (fam 2 (tP 4) (tO 4)) 2 w 4 dF 0 (List.replicate 24 0) (List.replicate 37 0) = some (tV 4 (2 * 4 + w), tC 4 (2 * 4 + w)) from lt_s (lt_s (lt_s (lt_s (lt_0) gV_4_2_0) gV_4_2_1) gV_4_2_2) gV_4_2_3)) f hf w hw⟩
theorem gP_5 : lpP 5 dF 0 0 (List.replicate 42 0) = some (tP 5) := by decide +kernel
theorem gO_5 : lpO 5 dF 0 (List.replicate 120 0) = some (tO 5) := by decide +kernel
theorem gI_5_0 : lpI (fam (sf 0) (tP 5) (tO 5)) (fam (st 0) (tP 5) (tO 5)) 0 5 dF 0 (List.replicate 120 0) = some (tI 5 0) := by decide +kernel
theorem gI_5_1 : lpI (fam (sf 1) (tP 5) (tO 5)) (fam (st 1) (tP 5) (tO 5)) 1 5 dF 0 (List.replicate 120 0) = some (tI 5 1) := by decide +kernel
theorem gI_5_2 : lpI (fam (sf 2) (tP 5) (tO 5)) (fam (st 2) (tP 5) (tO 5)) 2 5 dF 0 (List.replicate 120 0) = some (tI 5 2) := by decide +kernel
theorem gI_5_3 : lpI (fam (sf 3) (tP 5) (tO 5)) (fam (st 3) (tP 5) (tO 5)) 3 5 dF 0 (List.replicate 120 0) = some (tI 5 3) := by decide +kernel
theorem gI_5_4 : lpI (fam (sf 4) (tP 5) (tO 5)) (fam (st 4) (tP 5) (tO 5)) 4 5 dF 0 (List.replicate 120 0) = some (tI 5 4) := by decide +kernel
theorem gI_5_5 : lpI (fam (sf 5) (tP 5) (tO 5)) (fam (st 5) (tP 5) (tO 5)) 5 5 dF 0 (List.replicate 120 0) = some (tI 5 5) := by decide +kernel
theorem gI_5_6 : lpI (fam (sf 6) (tP 5) (tO 5)) (fam (st 6) (tP 5) (tO 5)) 6 5 dF 0 (List.replicate 120 0) = some (tI 5 6) := by decide +kernel
theorem gI_5_7 : lpI (fam (sf 7) (tP 5) (tO 5)) (fam (st 7) (tP 5) (tO 5)) 7 5 dF 0 (List.replicate 120 0) = some (tI 5 7) := by decide +kernel
theorem gI_5_8 : lpI (fam (sf 8) (tP 5) (tO 5)) (fam (st 8) (tP 5) (tO 5)) 8 5 dF 0 (List.replicate 120 0) = some (tI 5 8) := by decide +kernel
theorem gI_5_9 : lpI (fam (sf 9) (tP 5) (tO 5)) (fam (st 9) (tP 5) (tO 5)) 9 5 dF 0 (List.replicate 120 0) = some (tI 5 9) := by decide +kernel
theorem gI_5_10 : lpI (fam (sf 10) (tP 5) (tO 5)) (fam (st 10) (tP 5) (tO 5)) 10 5 dF 0 (List.replicate 120 0) = some (tI 5 10) := by decide +kernel
theorem gV_5_0_0 : lpV (fam 0 (tP 5) (tO 5)) 0 0 5 dF 0 (List.replicate 120 0) (List.replicate 37 0) = some (tV 5 (0 * 4 + 0), tC 5 (0 * 4 + 0)) := by decide +kernel
theorem gV_5_0_1 : lpV (fam 0 (tP 5) (tO 5)) 0 1 5 dF 0 (List.replicate 120 0) (List.replicate 37 0) = some (tV 5 (0 * 4 + 1), tC 5 (0 * 4 + 1)) := by decide +kernel
theorem gV_5_0_2 : lpV (fam 0 (tP 5) (tO 5)) 0 2 5 dF 0 (List.replicate 120 0) (List.replicate 37 0) = some (tV 5 (0 * 4 + 2), tC 5 (0 * 4 + 2)) := by decide +kernel
theorem gV_5_0_3 : lpV (fam 0 (tP 5) (tO 5)) 0 3 5 dF 0 (List.replicate 120 0) (List.replicate 37 0) = some (tV 5 (0 * 4 + 3), tC 5 (0 * 4 + 3)) := by decide +kernel
theorem gV_5_1_0 : lpV (fam 1 (tP 5) (tO 5)) 1 0 5 dF 0 (List.replicate 120 0) (List.replicate 37 0) = some (tV 5 (1 * 4 + 0), tC 5 (1 * 4 + 0)) := by decide +kernel
theorem gV_5_1_1 : lpV (fam 1 (tP 5) (tO 5)) 1 1 5 dF 0 (List.replicate 120 0) (List.replicate 37 0) = some (tV 5 (1 * 4 + 1), tC 5 (1 * 4 + 1)) := by decide +kernel
theorem gV_5_1_2 : lpV (fam 1 (tP 5) (tO 5)) 1 2 5 dF 0 (List.replicate 120 0) (List.replicate 37 0) = some (tV 5 (1 * 4 + 2), tC 5 (1 * 4 + 2)) := by decide +kernel
theorem gV_5_1_3 : lpV (fam 1 (tP 5) (tO 5)) 1 3 5 dF 0 (List.replicate 120 0) (List.replicate 37 0) = some (tV 5 (1 * 4 + 3), tC 5 (1 * 4 + 3)) := by decide +kernel
theorem gV_5_2_0 : lpV (fam 2 (tP 5) (tO 5)) 2 0 5 dF 0 (List.replicate 120 0) (List.replicate 37 0) = some (tV 5 (2 * 4 + 0), tC 5 (2 * 4 + 0)) := by decide +kernel
theorem gV_5_2_1 : lpV (fam 2 (tP 5) (tO 5)) 2 1 5 dF 0 (List.replicate 120 0) (List.replicate 37 0) = some (tV 5 (2 * 4 + 1), tC 5 (2 * 4 + 1)) := by decide +kernel
theorem gV_5_2_2 : lpV (fam 2 (tP 5) (tO 5)) 2 2 5 dF 0 (List.replicate 120 0) (List.replicate 37 0) = some (tV 5 (2 * 4 + 2), tC 5 (2 * 4 + 2)) := by decide +kernel
theorem gV_5_2_3 : lpV (fam 2 (tP 5) (tO 5)) 2 3 5 dF 0 (List.replicate 120 0) (List.replicate 37 0) = some (tV 5 (2 * 4 + 3), tC 5 (2 * 4 + 3)) := by decide +kernel
theorem good_5 : Good 5 42 120 (tP 5) (tO 5) (tI 5) (tV 5) (tC 5) := ⟨⟨by decide, by decide +kernel, by decide +kernel, by decide +kernel, by decide, by decide⟩, ⟨gP_5, gO_5, by decide +kernel, by decide +kernel, (show ∀ x ∈ tP 5, x < 4294967296 by decide +kernel), (show ∀ x ∈ tO 5, x < 4294967296 by decide +kernel)⟩, lt_s (lt_s (lt_s (lt_s (lt_s (lt_s (lt_s (lt_s (lt_s (lt_s (lt_s (lt_0) gI_5_0) gI_5_1) gI_5_2) gI_5_3) gI_5_4) gI_5_5) gI_5_6) gI_5_7) gI_5_8) gI_5_9) gI_5_10, fun f w hf hw => (show ∀ f, f < 3 → ∀ w, w < 4 → lpV (fam f (tP 5) (tO 5)) f w 5 dF 0 (List.replicate 120 0) (List.replicate 37 0) = some (tV 5 (f * 4 + w), tC 5 (f * 4 + w)) from lt_s (lt_s (lt_s (lt_0) (show ∀ w, w < 4 → lpV (fam 0 (tP 5) (tO 5)) 0 w 5 dF 0 (List.replicate 120 0) (List.replicate 37 0) = some (tV 5 (0 * 4 + w), tC 5 (0 * 4 + w)) from lt_s (lt_s (lt_s (lt_s (lt_0) gV_5_0_0) gV_5_0_1) gV_5_0_2) gV_5_0_3)) (show ∀ w, w < 4 → lpV (fam 1 (tP 5) (tO 5)) 1 w 5 dF 0 (List.replicate 120 0) (List.replicate 37 0) = some (tV 5 (1 * 4 + w), tC 5 (1 * 4 + w)) from lt_s (lt_s (lt_s (lt_s (lt_0) gV_5_1_0) gV_5_1_1) gV_5_1_2) gV_5_1_3)) (show ∀ w, w < 4 → lpV (fam 2 (tP 5) (tO 5)) 2 w 5 dF 0 (List.replicate 120 0) (List.replicate 37 0) = some (tV 5 (2 * 4 + w), tC 5 (2 * 4 + w)) from lt_s (lt_s (lt_s (lt_s (lt_0) gV_5_2_0) gV_5_2_1) gV_5_2_2) gV_5_2_3)) f hf w hw⟩
def pcn (n : Nat) : Nat := ([1, 1, 2, 5, 14, 42] : List Nat).getD n 0
def ocn (n : Nat) : Nat := ([1, 1, 2, 6, 24, 120] : List Nat).getD n 0
theorem good_n : ∀ n, 1 ≤ n → n ≤ 5 → Good n (pcn n) (ocn n) (tP n) (tO n) (tI n) (tV n) (tC n) := fun n h1 h2 => by
  rcases (show n = 1 ∨ n = 2 ∨ n = 3 ∨ n = 4 ∨ n = 5 by omega) with rfl | rfl | rfl | rfl | rfl
  · exact good_1
  · exact good_2
  · exact good_3
  · exact good_4
  · exact good_5
