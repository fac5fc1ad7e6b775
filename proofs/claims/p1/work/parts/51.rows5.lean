def p5 : List Nat := [682, 684, 690, 692, 696, 714, 716, 722, 724, 728, 738, 740, 744, 752, 810, 812, 818, 820, 824, 842, 844, 850, 852, 856, 866, 868, 872, 880, 906, 908, 914, 916, 920, 930, 932, 936, 944, 962, 964, 968, 976, 992]
def o5 : List Nat := [12345, 12354, 12435, 12453, 12534, 12543, 13245, 13254, 13425, 13452, 13524, 13542, 14235, 14253, 14325, 14352, 14523, 14532, 15234, 15243, 15324, 15342, 15423, 15432, 21345, 21354, 21435, 21453, 21534, 21543, 23145, 23154, 23415, 23451, 23514, 23541, 24135, 24153, 24315, 24351, 24513, 24531, 25134, 25143, 25314, 25341, 25413, 25431, 31245, 31254, 31425, 31452, 31524, 31542, 32145, 32154, 32415, 32451, 32514, 32541, 34125, 34152, 34215, 34251, 34512, 34521, 35124, 35142, 35214, 35241, 35412, 35421, 41235, 41253, 41325, 41352, 41523, 41532, 42135, 42153, 42315, 42351, 42513, 42531, 43125, 43152, 43215, 43251, 43512, 43521, 45123, 45132, 45213, 45231, 45312, 45321, 51234, 51243, 51324, 51342, 51423, 51432, 52134, 52143, 52314, 52341, 52413, 52431, 53124, 53142, 53214, 53241, 53412, 53421, 54123, 54132, 54213, 54231, 54312, 54321]
set_option maxRecDepth 100000 in
theorem pk5_0 : lpPk 5 512 0 0 (List.replicate 42 0) = some (0, (p5.take 0 ++ List.replicate 42 0)) := by decide +kernel
set_option maxRecDepth 100000 in
theorem pk5_512 : lpPk 5 512 0 512 (p5.take 0 ++ List.replicate 42 0) = some (42, (p5.take 42 ++ List.replicate 0 0)) := by decide +kernel
set_option maxRecDepth 100000 in
theorem pP_5 : lpP 5 dF 0 0 (List.replicate 42 0) = some p5 := by
  have hn : wshl 1 (wmul 2 5) ≤ 4096 := by decide +kernel
  rw [show dF = 98976 + 512 + 512 from rfl]
  rw [(lpP_k hn 512 (98976 + 512) _ _ _ _ pk5_0 (by decide +kernel) (by decide)).1]
  rw [(lpP_k hn 512 (98976) _ _ _ _ pk5_512 (by decide +kernel) (by decide)).1]
  rw [show 98976 = 98975 + 1 from rfl, lpP_s]
  unfold lpPb
  rw [show wle (wshl 1 (wmul 2 5)) (512 + 512) = true by decide +kernel, cond_true]
  exact congrArg some (by decide +kernel)
set_option maxRecDepth 100000 in
theorem ok5_0 : lpOk 5 120 0 (List.replicate 120 0) = some (o5.take 120 ++ List.replicate 0 0) := by decide +kernel
set_option maxRecDepth 100000 in
theorem pO_5 : lpO 5 dF 0 (List.replicate 120 0) = some o5 := by
  rw [show dF = 99880 + 120 from rfl]
  rw [(lpO_k 120 (99880) _ _ _ ok5_0 (by decide +kernel) (by decide +kernel)).1]
  rw [show 99880 = 99879 + 1 from rfl, lpO_s]
  unfold lpOb
  rw [show wle (List.length (o5.take 120 ++ List.replicate 0 0)) (0 + 120) = true by decide +kernel, cond_true]
  exact congrArg some (by decide +kernel)
set_option maxRecDepth 100000 in
theorem im5_0 : p5.all (okI 0 5) = true := by decide +kernel
set_option maxRecDepth 100000 in
theorem im5_1 : p5.all (okI 1 5) = true := by decide +kernel
set_option maxRecDepth 100000 in
theorem im5_2 : p5.all (okI 2 5) = true := by decide +kernel
set_option maxRecDepth 100000 in
theorem im5_3 : p5.all (okI 3 5) = true := by decide +kernel
set_option maxRecDepth 100000 in
theorem im5_4 : p5.all (okI 4 5) = true := by decide +kernel
set_option maxRecDepth 100000 in
theorem im5_5 : p5.all (okI 5 5) = true := by decide +kernel
set_option maxRecDepth 100000 in
theorem im5_6 : p5.all (okI 6 5) = true := by decide +kernel
set_option maxRecDepth 100000 in
theorem im5_7 : o5.all (okI 7 5) = true := by decide +kernel
set_option maxRecDepth 100000 in
theorem im5_8 : o5.all (okI 8 5) = true := by decide +kernel
set_option maxRecDepth 100000 in
theorem im5_9 : o5.all (okI 9 5) = true := by decide +kernel
set_option maxRecDepth 100000 in
theorem im5_10 : o5.all (okI 10 5) = true := by decide +kernel
set_option maxRecDepth 100000 in
theorem va5_0_0 : p5.all (okW 0 0 5) = true := by decide +kernel
set_option maxRecDepth 100000 in
theorem va5_0_1 : p5.all (okW 0 1 5) = true := by decide +kernel
set_option maxRecDepth 100000 in
theorem va5_0_2 : p5.all (okW 0 2 5) = true := by decide +kernel
set_option maxRecDepth 100000 in
theorem va5_0_3 : p5.all (okW 0 3 5) = true := by decide +kernel
set_option maxRecDepth 100000 in
theorem va5_1_0 : p5.all (okW 1 0 5) = true := by decide +kernel
set_option maxRecDepth 100000 in
theorem va5_1_1 : p5.all (okW 1 1 5) = true := by decide +kernel
set_option maxRecDepth 100000 in
theorem va5_1_2 : p5.all (okW 1 2 5) = true := by decide +kernel
set_option maxRecDepth 100000 in
theorem va5_1_3 : p5.all (okW 1 3 5) = true := by decide +kernel
set_option maxRecDepth 100000 in
theorem va5_2_0 : o5.all (okW 2 0 5) = true := by decide +kernel
set_option maxRecDepth 100000 in
theorem va5_2_1 : o5.all (okW 2 1 5) = true := by decide +kernel
set_option maxRecDepth 100000 in
theorem va5_2_2 : o5.all (okW 2 2 5) = true := by decide +kernel
set_option maxRecDepth 100000 in
theorem va5_2_3 : o5.all (okW 2 3 5) = true := by decide +kernel
theorem im5 (s : Nat) (hs : s < 11) : ∃ R, lpI (fam (sf s) p5 o5) (fam (st s) p5 o5) s 5 dF 0 (List.replicate 120 0) = some R := by
  have key : ∀ cf ct : List Nat, cf.length ≤ 1000 → cf.all (okI s 5) = true → ∃ R, lpI cf ct s 5 dF 0 (List.replicate 120 0) = some R := fun cf ct hl ha => by
    have e : dF = (99999 - cf.length) + cf.length + 1 := by show 100000 = _; omega
    rw [e]
    exact lpI_t hl (fun c hc => okI_spec (List.all_eq_true.mp ha c hc)) cf.length 0 _ _ (by omega)
  rcases (show s = 0 ∨ s = 1 ∨ s = 2 ∨ s = 3 ∨ s = 4 ∨ s = 5 ∨ s = 6 ∨ s = 7 ∨ s = 8 ∨ s = 9 ∨ s = 10 by omega) with rfl | rfl | rfl | rfl | rfl | rfl | rfl | rfl | rfl | rfl | rfl
  · exact key p5 _ (by decide +kernel) im5_0
  · exact key p5 _ (by decide +kernel) im5_1
  · exact key p5 _ (by decide +kernel) im5_2
  · exact key p5 _ (by decide +kernel) im5_3
  · exact key p5 _ (by decide +kernel) im5_4
  · exact key p5 _ (by decide +kernel) im5_5
  · exact key p5 _ (by decide +kernel) im5_6
  · exact key o5 _ (by decide +kernel) im5_7
  · exact key o5 _ (by decide +kernel) im5_8
  · exact key o5 _ (by decide +kernel) im5_9
  · exact key o5 _ (by decide +kernel) im5_10
theorem va5 (f w : Nat) (hf : f < 3) (hw : w < 4) : ∃ R, lpV (fam f p5 o5) f w 5 dF 0 (List.replicate 120 0) (List.replicate 37 0) = some R := by
  have key : ∀ cf : List Nat, cf.length ≤ 1000 → cf.all (okW f w 5) = true → ∃ R, lpV cf f w 5 dF 0 (List.replicate 120 0) (List.replicate 37 0) = some R := fun cf hl ha => by
    have e : dF = (99999 - cf.length) + cf.length + 1 := by show 100000 = _; omega
    rw [e]
    exact lpV_t hl (fun c hc => okW_spec (List.all_eq_true.mp ha c hc)) cf.length 0 _ _ _ (by omega) (by decide +kernel)
  rcases (show f = 0 ∨ f = 1 ∨ f = 2 by omega) with rfl | rfl | rfl
  · rcases (show w = 0 ∨ w = 1 ∨ w = 2 ∨ w = 3 by omega) with rfl | rfl | rfl | rfl
    · exact key p5 (by decide +kernel) va5_0_0
    · exact key p5 (by decide +kernel) va5_0_1
    · exact key p5 (by decide +kernel) va5_0_2
    · exact key p5 (by decide +kernel) va5_0_3
  · rcases (show w = 0 ∨ w = 1 ∨ w = 2 ∨ w = 3 by omega) with rfl | rfl | rfl | rfl
    · exact key p5 (by decide +kernel) va5_1_0
    · exact key p5 (by decide +kernel) va5_1_1
    · exact key p5 (by decide +kernel) va5_1_2
    · exact key p5 (by decide +kernel) va5_1_3
  · rcases (show w = 0 ∨ w = 1 ∨ w = 2 ∨ w = 3 by omega) with rfl | rfl | rfl | rfl
    · exact key o5 (by decide +kernel) va5_2_0
    · exact key o5 (by decide +kernel) va5_2_1
    · exact key o5 (by decide +kernel) va5_2_2
    · exact key o5 (by decide +kernel) va5_2_3
theorem sm_of {xs : List Nat} (h : xs.all (fun x => Nat.blt x 4294967296) = true) : sm xs := fun x hx => by
  have := List.all_eq_true.mp h x hx
  exact Nat.le_of_ble_eq_true this
theorem good_ex5 : ∃ I V C, Good 5 42 120 p5 o5 I V C := by
  refine ⟨fun s => if hs : s < 11 then (im5 s hs).choose else [], fun k => if hk : k < 12 then (va5 (k / 4) (k % 4) (by omega) (by omega)).choose.1 else [], fun k => if hk : k < 12 then (va5 (k / 4) (k % 4) (by omega) (by omega)).choose.2 else [], ⟨by decide, by decide +kernel, by decide +kernel, by decide +kernel, by decide, by decide⟩, ⟨pP_5, pO_5, by decide +kernel, by decide +kernel, sm_of (by decide +kernel), sm_of (by decide +kernel)⟩, fun s hs => ?_, fun f w hf hw => ?_⟩
  · dsimp only
    rw [dif_pos hs]
    exact (im5 s hs).choose_spec
  · have h12 : f * 4 + w < 12 := by omega
    dsimp only
    rw [dif_pos h12, dif_pos h12]
    have e1 : (f * 4 + w) / 4 = f := by omega
    have e2 : (f * 4 + w) % 4 = w := by omega
    have key : ∀ (x y : Nat) (hx : x < 3) (hy : y < 4), x = f → y = w → lpV (fam f p5 o5) f w 5 dF 0 (List.replicate 120 0) (List.replicate 37 0) = some ((va5 x y hx hy).choose.1, (va5 x y hx hy).choose.2) := fun x y hx hy ex ey => by
      subst ex ey
      exact (va5 x y hx hy).choose_spec
    exact key _ _ (by omega) (by omega) e1 e2
