theorem sm_of2 {xs : List Nat} (h : xs.all (fun x => Nat.blt x 4294967296) = true) : sm xs := fun x hx => by
  have := List.all_eq_true.mp h x hx
  exact Nat.le_of_ble_eq_true this
def p6 : List Nat := [2730, 2732, 2738, 2740, 2744, 2762, 2764, 2770, 2772, 2776, 2786, 2788, 2792, 2800, 2858, 2860, 2866, 2868, 2872, 2890, 2892, 2898, 2900, 2904, 2914, 2916, 2920, 2928, 2954, 2956, 2962, 2964, 2968, 2978, 2980, 2984, 2992, 3010, 3012, 3016, 3024, 3040, 3242, 3244, 3250, 3252, 3256, 3274, 3276, 3282, 3284, 3288, 3298, 3300, 3304, 3312, 3370, 3372, 3378, 3380, 3384, 3402, 3404, 3410, 3412, 3416, 3426, 3428, 3432, 3440, 3466, 3468, 3474, 3476, 3480, 3490, 3492, 3496, 3504, 3522, 3524, 3528, 3536, 3552, 3626, 3628, 3634, 3636, 3640, 3658, 3660, 3666, 3668, 3672, 3682, 3684, 3688, 3696, 3722, 3724, 3730, 3732, 3736, 3746, 3748, 3752, 3760, 3778, 3780, 3784, 3792, 3808, 3850, 3852, 3858, 3860, 3864, 3874, 3876, 3880, 3888, 3906, 3908, 3912, 3920, 3936, 3970, 3972, 3976, 3984, 4000, 4032]
def o6 : List Nat := [123456, 123465, 123546, 123564, 123645, 123654, 124356, 124365, 124536, 124563, 124635, 124653, 125346, 125364, 125436, 125463, 125634, 125643, 126345, 126354, 126435, 126453, 126534, 126543, 132456, 132465, 132546, 132564, 132645, 132654, 134256, 134265, 134526, 134562, 134625, 134652, 135246, 135264, 135426, 135462, 135624, 135642, 136245, 136254, 136425, 136452, 136524, 136542, 142356, 142365, 142536, 142563, 142635, 142653, 143256, 143265, 143526, 143562, 143625, 143652, 145236, 145263, 145326, 145362, 145623, 145632, 146235, 146253, 146325, 146352, 146523, 146532, 152346, 152364, 152436, 152463, 152634, 152643, 153246, 153264, 153426, 153462, 153624, 153642, 154236, 154263, 154326, 154362, 154623, 154632, 156234, 156243, 156324, 156342, 156423, 156432, 162345, 162354, 162435, 162453, 162534, 162543, 163245, 163254, 163425, 163452, 163524, 163542, 164235, 164253, 164325, 164352, 164523, 164532, 165234, 165243, 165324, 165342, 165423, 165432, 213456, 213465, 213546, 213564, 213645, 213654, 214356, 214365, 214536, 214563, 214635, 214653, 215346, 215364, 215436, 215463, 215634, 215643, 216345, 216354, 216435, 216453, 216534, 216543, 231456, 231465, 231546, 231564, 231645, 231654, 234156, 234165, 234516, 234561, 234615, 234651, 235146, 235164, 235416, 235461, 235614, 235641, 236145, 236154, 236415, 236451, 236514, 236541, 241356, 241365, 241536, 241563, 241635, 241653, 243156, 243165, 243516, 243561, 243615, 243651, 245136, 245163, 245316, 245361, 245613, 245631, 246135, 246153, 246315, 246351, 246513, 246531, 251346, 251364, 251436, 251463, 251634, 251643, 253146, 253164, 253416, 253461, 253614, 253641, 254136, 254163, 254316, 254361, 254613, 254631, 256134, 256143, 256314, 256341, 256413, 256431, 261345, 261354, 261435, 261453, 261534, 261543, 263145, 263154, 263415, 263451, 263514, 263541, 264135, 264153, 264315, 264351, 264513, 264531, 265134, 265143, 265314, 265341, 265413, 265431, 312456, 312465, 312546, 312564, 312645, 312654, 314256, 314265, 314526, 314562, 314625, 314652, 315246, 315264, 315426, 315462, 315624, 315642, 316245, 316254, 316425, 316452, 316524, 316542, 321456, 321465, 321546, 321564, 321645, 321654, 324156, 324165, 324516, 324561, 324615, 324651, 325146, 325164, 325416, 325461, 325614, 325641, 326145, 326154, 326415, 326451, 326514, 326541, 341256, 341265, 341526, 341562, 341625, 341652, 342156, 342165, 342516, 342561, 342615, 342651, 345126, 345162, 345216, 345261, 345612, 345621, 346125, 346152, 346215, 346251, 346512, 346521, 351246, 351264, 351426, 351462, 351624, 351642, 352146, 352164, 352416, 352461, 352614, 352641, 354126, 354162, 354216, 354261, 354612, 354621, 356124, 356142, 356214, 356241, 356412, 356421, 361245, 361254, 361425, 361452, 361524, 361542, 362145, 362154, 362415, 362451, 362514, 362541, 364125, 364152, 364215, 364251, 364512, 364521, 365124, 365142, 365214, 365241, 365412, 365421, 412356, 412365, 412536, 412563, 412635, 412653, 413256, 413265, 413526, 413562, 413625, 413652, 415236, 415263, 415326, 415362, 415623, 415632, 416235, 416253, 416325, 416352, 416523, 416532, 421356, 421365, 421536, 421563, 421635, 421653, 423156, 423165, 423516, 423561, 423615, 423651, 425136, 425163, 425316, 425361, 425613, 425631, 426135, 426153, 426315, 426351, 426513, 426531, 431256, 431265, 431526, 431562, 431625, 431652, 432156, 432165, 432516, 432561, 432615, 432651, 435126, 435162, 435216, 435261, 435612, 435621, 436125, 436152, 436215, 436251, 436512, 436521, 451236, 451263, 451326, 451362, 451623, 451632, 452136, 452163, 452316, 452361, 452613, 452631, 453126, 453162, 453216, 453261, 453612, 453621, 456123, 456132, 456213, 456231, 456312, 456321, 461235, 461253, 461325, 461352, 461523, 461532, 462135, 462153, 462315, 462351, 462513, 462531, 463125, 463152, 463215, 463251, 463512, 463521, 465123, 465132, 465213, 465231, 465312, 465321, 512346, 512364, 512436, 512463, 512634, 512643, 513246, 513264, 513426, 513462, 513624, 513642, 514236, 514263, 514326, 514362, 514623, 514632, 516234, 516243, 516324, 516342, 516423, 516432, 521346, 521364, 521436, 521463, 521634, 521643, 523146, 523164, 523416, 523461, 523614, 523641, 524136, 524163, 524316, 524361, 524613, 524631, 526134, 526143, 526314, 526341, 526413, 526431, 531246, 531264, 531426, 531462, 531624, 531642, 532146, 532164, 532416, 532461, 532614, 532641, 534126, 534162, 534216, 534261, 534612, 534621, 536124, 536142, 536214, 536241, 536412, 536421, 541236, 541263, 541326, 541362, 541623, 541632, 542136, 542163, 542316, 542361, 542613, 542631, 543126, 543162, 543216, 543261, 543612, 543621, 546123, 546132, 546213, 546231, 546312, 546321, 561234, 561243, 561324, 561342, 561423, 561432, 562134, 562143, 562314, 562341, 562413, 562431, 563124, 563142, 563214, 563241, 563412, 563421, 564123, 564132, 564213, 564231, 564312, 564321, 612345, 612354, 612435, 612453, 612534, 612543, 613245, 613254, 613425, 613452, 613524, 613542, 614235, 614253, 614325, 614352, 614523, 614532, 615234, 615243, 615324, 615342, 615423, 615432, 621345, 621354, 621435, 621453, 621534, 621543, 623145, 623154, 623415, 623451, 623514, 623541, 624135, 624153, 624315, 624351, 624513, 624531, 625134, 625143, 625314, 625341, 625413, 625431, 631245, 631254, 631425, 631452, 631524, 631542, 632145, 632154, 632415, 632451, 632514, 632541, 634125, 634152, 634215, 634251, 634512, 634521, 635124, 635142, 635214, 635241, 635412, 635421, 641235, 641253, 641325, 641352, 641523, 641532, 642135, 642153, 642315, 642351, 642513, 642531, 643125, 643152, 643215, 643251, 643512, 643521, 645123, 645132, 645213, 645231, 645312, 645321, 651234, 651243, 651324, 651342, 651423, 651432, 652134, 652143, 652314, 652341, 652413, 652431, 653124, 653142, 653214, 653241, 653412, 653421, 654123, 654132, 654213, 654231, 654312, 654321]
set_option maxRecDepth 100000 in
theorem pk6_0 : lpPk 6 512 0 0 (List.replicate 132 0) = some (0, (p6.take 0 ++ List.replicate 132 0)) := by decide +kernel
set_option maxRecDepth 100000 in
theorem pk6_512 : lpPk 6 512 0 512 (p6.take 0 ++ List.replicate 132 0) = some (0, (p6.take 0 ++ List.replicate 132 0)) := by decide +kernel
set_option maxRecDepth 100000 in
theorem pk6_1024 : lpPk 6 512 0 1024 (p6.take 0 ++ List.replicate 132 0) = some (0, (p6.take 0 ++ List.replicate 132 0)) := by decide +kernel
set_option maxRecDepth 100000 in
theorem pk6_1536 : lpPk 6 512 0 1536 (p6.take 0 ++ List.replicate 132 0) = some (0, (p6.take 0 ++ List.replicate 132 0)) := by decide +kernel
set_option maxRecDepth 100000 in
theorem pk6_2048 : lpPk 6 512 0 2048 (p6.take 0 ++ List.replicate 132 0) = some (0, (p6.take 0 ++ List.replicate 132 0)) := by decide +kernel
set_option maxRecDepth 100000 in
theorem pk6_2560 : lpPk 6 512 0 2560 (p6.take 0 ++ List.replicate 132 0) = some (42, (p6.take 42 ++ List.replicate 90 0)) := by decide +kernel
set_option maxRecDepth 100000 in
theorem pk6_3072 : lpPk 6 512 42 3072 (p6.take 42 ++ List.replicate 90 0) = some (84, (p6.take 84 ++ List.replicate 48 0)) := by decide +kernel
set_option maxRecDepth 100000 in
theorem pk6_3584 : lpPk 6 512 84 3584 (p6.take 84 ++ List.replicate 48 0) = some (132, (p6.take 132 ++ List.replicate 0 0)) := by decide +kernel
set_option maxRecDepth 100000 in
theorem pP_6 : lpP 6 dF 0 0 (List.replicate 132 0) = some p6 := by
  have hn : wshl 1 (wmul 2 6) ≤ 4096 := by decide +kernel
  rw [show dF = 95904 + 512 + 512 + 512 + 512 + 512 + 512 + 512 + 512 from rfl]
  rw [(lpP_k hn 512 (95904 + 512 + 512 + 512 + 512 + 512 + 512 + 512) _ _ _ _ pk6_0 (by decide +kernel) (by decide)).1]
  rw [(lpP_k hn 512 (95904 + 512 + 512 + 512 + 512 + 512 + 512) _ _ _ _ pk6_512 (by decide +kernel) (by decide)).1]
  rw [(lpP_k hn 512 (95904 + 512 + 512 + 512 + 512 + 512) _ _ _ _ pk6_1024 (by decide +kernel) (by decide)).1]
  rw [(lpP_k hn 512 (95904 + 512 + 512 + 512 + 512) _ _ _ _ pk6_1536 (by decide +kernel) (by decide)).1]
  rw [(lpP_k hn 512 (95904 + 512 + 512 + 512) _ _ _ _ pk6_2048 (by decide +kernel) (by decide)).1]
  rw [(lpP_k hn 512 (95904 + 512 + 512) _ _ _ _ pk6_2560 (by decide +kernel) (by decide)).1]
  rw [(lpP_k hn 512 (95904 + 512) _ _ _ _ pk6_3072 (by decide +kernel) (by decide)).1]
  rw [(lpP_k hn 512 (95904) _ _ _ _ pk6_3584 (by decide +kernel) (by decide)).1]
  rw [show 95904 = 95903 + 1 from rfl, lpP_s]
  unfold lpPb
  rw [show wle (wshl 1 (wmul 2 6)) (3584 + 512) = true by decide +kernel, cond_true]
  exact congrArg some (by decide +kernel)
set_option maxRecDepth 100000 in
theorem ok6_0 : lpOk 6 120 0 (List.replicate 720 0) = some (o6.take 120 ++ List.replicate 600 0) := by decide +kernel
set_option maxRecDepth 100000 in
theorem ok6_120 : lpOk 6 120 120 (o6.take 120 ++ List.replicate 600 0) = some (o6.take 240 ++ List.replicate 480 0) := by decide +kernel
set_option maxRecDepth 100000 in
theorem ok6_240 : lpOk 6 120 240 (o6.take 240 ++ List.replicate 480 0) = some (o6.take 360 ++ List.replicate 360 0) := by decide +kernel
set_option maxRecDepth 100000 in
theorem ok6_360 : lpOk 6 120 360 (o6.take 360 ++ List.replicate 360 0) = some (o6.take 480 ++ List.replicate 240 0) := by decide +kernel
set_option maxRecDepth 100000 in
theorem ok6_480 : lpOk 6 120 480 (o6.take 480 ++ List.replicate 240 0) = some (o6.take 600 ++ List.replicate 120 0) := by decide +kernel
set_option maxRecDepth 100000 in
theorem ok6_600 : lpOk 6 120 600 (o6.take 600 ++ List.replicate 120 0) = some (o6.take 720 ++ List.replicate 0 0) := by decide +kernel
set_option maxRecDepth 100000 in
theorem pO_6 : lpO 6 dF 0 (List.replicate 720 0) = some o6 := by
  rw [show dF = 99280 + 120 + 120 + 120 + 120 + 120 + 120 from rfl]
  rw [(lpO_k 120 (99280 + 120 + 120 + 120 + 120 + 120) _ _ _ ok6_0 (by decide +kernel) (by decide +kernel)).1]
  rw [(lpO_k 120 (99280 + 120 + 120 + 120 + 120) _ _ _ ok6_120 (by decide +kernel) (by decide +kernel)).1]
  rw [(lpO_k 120 (99280 + 120 + 120 + 120) _ _ _ ok6_240 (by decide +kernel) (by decide +kernel)).1]
  rw [(lpO_k 120 (99280 + 120 + 120) _ _ _ ok6_360 (by decide +kernel) (by decide +kernel)).1]
  rw [(lpO_k 120 (99280 + 120) _ _ _ ok6_480 (by decide +kernel) (by decide +kernel)).1]
  rw [(lpO_k 120 (99280) _ _ _ ok6_600 (by decide +kernel) (by decide +kernel)).1]
  rw [show 99280 = 99279 + 1 from rfl, lpO_s]
  unfold lpOb
  rw [show wle (List.length (o6.take 720 ++ List.replicate 0 0)) (600 + 120) = true by decide +kernel, cond_true]
  exact congrArg some (by decide +kernel)
set_option maxRecDepth 100000 in
theorem im6_0 : p6.all (okI 0 6) = true := by decide +kernel
set_option maxRecDepth 100000 in
theorem im6_1 : p6.all (okI 1 6) = true := by decide +kernel
set_option maxRecDepth 100000 in
theorem im6_2 : p6.all (okI 2 6) = true := by decide +kernel
set_option maxRecDepth 100000 in
theorem im6_3 : p6.all (okI 3 6) = true := by decide +kernel
set_option maxRecDepth 100000 in
theorem im6_4 : p6.all (okI 4 6) = true := by decide +kernel
set_option maxRecDepth 100000 in
theorem im6_5 : p6.all (okI 5 6) = true := by decide +kernel
set_option maxRecDepth 100000 in
theorem im6_6 : p6.all (okI 6 6) = true := by decide +kernel
set_option maxRecDepth 100000 in
theorem im6_7 : o6.all (okI 7 6) = true := by decide +kernel
set_option maxRecDepth 100000 in
theorem im6_8 : o6.all (okI 8 6) = true := by decide +kernel
set_option maxRecDepth 100000 in
theorem im6_9 : o6.all (okI 9 6) = true := by decide +kernel
set_option maxRecDepth 100000 in
theorem im6_10 : o6.all (okI 10 6) = true := by decide +kernel
set_option maxRecDepth 100000 in
theorem va6_0_0 : p6.all (okW 0 0 6) = true := by decide +kernel
set_option maxRecDepth 100000 in
theorem va6_0_1 : p6.all (okW 0 1 6) = true := by decide +kernel
set_option maxRecDepth 100000 in
theorem va6_0_2 : p6.all (okW 0 2 6) = true := by decide +kernel
set_option maxRecDepth 100000 in
theorem va6_0_3 : p6.all (okW 0 3 6) = true := by decide +kernel
set_option maxRecDepth 100000 in
theorem va6_1_0 : p6.all (okW 1 0 6) = true := by decide +kernel
set_option maxRecDepth 100000 in
theorem va6_1_1 : p6.all (okW 1 1 6) = true := by decide +kernel
set_option maxRecDepth 100000 in
theorem va6_1_2 : p6.all (okW 1 2 6) = true := by decide +kernel
set_option maxRecDepth 100000 in
theorem va6_1_3 : p6.all (okW 1 3 6) = true := by decide +kernel
set_option maxRecDepth 100000 in
theorem va6_2_0 : o6.all (okW 2 0 6) = true := by decide +kernel
set_option maxRecDepth 100000 in
theorem va6_2_1 : o6.all (okW 2 1 6) = true := by decide +kernel
set_option maxRecDepth 100000 in
theorem va6_2_2 : o6.all (okW 2 2 6) = true := by decide +kernel
set_option maxRecDepth 100000 in
theorem va6_2_3 : o6.all (okW 2 3 6) = true := by decide +kernel
theorem im6 (s : Nat) (hs : s < 11) : ∃ R, lpI (fam (sf s) p6 o6) (fam (st s) p6 o6) s 6 dF 0 (List.replicate 720 0) = some R := by
  have key : ∀ cf ct : List Nat, cf.length ≤ 1000 → cf.all (okI s 6) = true → ∃ R, lpI cf ct s 6 dF 0 (List.replicate 720 0) = some R := fun cf ct hl ha => by
    have e : dF = (99999 - cf.length) + cf.length + 1 := by show 100000 = _; omega
    rw [e]
    exact lpI_t hl (fun c hc => okI_spec (List.all_eq_true.mp ha c hc)) cf.length 0 _ _ (by omega)
  rcases (show s = 0 ∨ s = 1 ∨ s = 2 ∨ s = 3 ∨ s = 4 ∨ s = 5 ∨ s = 6 ∨ s = 7 ∨ s = 8 ∨ s = 9 ∨ s = 10 by omega) with rfl | rfl | rfl | rfl | rfl | rfl | rfl | rfl | rfl | rfl | rfl
  · exact key p6 _ (by decide +kernel) im6_0
  · exact key p6 _ (by decide +kernel) im6_1
  · exact key p6 _ (by decide +kernel) im6_2
  · exact key p6 _ (by decide +kernel) im6_3
  · exact key p6 _ (by decide +kernel) im6_4
  · exact key p6 _ (by decide +kernel) im6_5
  · exact key p6 _ (by decide +kernel) im6_6
  · exact key o6 _ (by decide +kernel) im6_7
  · exact key o6 _ (by decide +kernel) im6_8
  · exact key o6 _ (by decide +kernel) im6_9
  · exact key o6 _ (by decide +kernel) im6_10
theorem va6 (f w : Nat) (hf : f < 3) (hw : w < 4) : ∃ R, lpV (fam f p6 o6) f w 6 dF 0 (List.replicate 720 0) (List.replicate 37 0) = some R := by
  have key : ∀ cf : List Nat, cf.length ≤ 1000 → cf.all (okW f w 6) = true → ∃ R, lpV cf f w 6 dF 0 (List.replicate 720 0) (List.replicate 37 0) = some R := fun cf hl ha => by
    have e : dF = (99999 - cf.length) + cf.length + 1 := by show 100000 = _; omega
    rw [e]
    exact lpV_t hl (fun c hc => okW_spec (List.all_eq_true.mp ha c hc)) cf.length 0 _ _ _ (by omega) (by decide +kernel)
  rcases (show f = 0 ∨ f = 1 ∨ f = 2 by omega) with rfl | rfl | rfl
  · rcases (show w = 0 ∨ w = 1 ∨ w = 2 ∨ w = 3 by omega) with rfl | rfl | rfl | rfl
    · exact key p6 (by decide +kernel) va6_0_0
    · exact key p6 (by decide +kernel) va6_0_1
    · exact key p6 (by decide +kernel) va6_0_2
    · exact key p6 (by decide +kernel) va6_0_3
  · rcases (show w = 0 ∨ w = 1 ∨ w = 2 ∨ w = 3 by omega) with rfl | rfl | rfl | rfl
    · exact key p6 (by decide +kernel) va6_1_0
    · exact key p6 (by decide +kernel) va6_1_1
    · exact key p6 (by decide +kernel) va6_1_2
    · exact key p6 (by decide +kernel) va6_1_3
  · rcases (show w = 0 ∨ w = 1 ∨ w = 2 ∨ w = 3 by omega) with rfl | rfl | rfl | rfl
    · exact key o6 (by decide +kernel) va6_2_0
    · exact key o6 (by decide +kernel) va6_2_1
    · exact key o6 (by decide +kernel) va6_2_2
    · exact key o6 (by decide +kernel) va6_2_3

theorem good_ex6 : ∃ I V C, Good 6 132 720 p6 o6 I V C := by
  refine ⟨fun s => if hs : s < 11 then (im6 s hs).choose else [], fun k => if hk : k < 12 then (va6 (k / 4) (k % 4) (by omega) (by omega)).choose.1 else [], fun k => if hk : k < 12 then (va6 (k / 4) (k % 4) (by omega) (by omega)).choose.2 else [], ⟨by decide, by decide +kernel, by decide +kernel, by decide +kernel, by decide, by decide⟩, ⟨pP_6, pO_6, by decide +kernel, by decide +kernel, sm_of2 (by decide +kernel), sm_of2 (by decide +kernel)⟩, fun s hs => ?_, fun f w hf hw => ?_⟩
  · dsimp only
    rw [dif_pos hs]
    exact (im6 s hs).choose_spec
  · have h12 : f * 4 + w < 12 := by omega
    dsimp only
    rw [dif_pos h12, dif_pos h12]
    have e1 : (f * 4 + w) / 4 = f := by omega
    have e2 : (f * 4 + w) % 4 = w := by omega
    have key : ∀ (x y : Nat) (hx : x < 3) (hy : y < 4), x = f → y = w → lpV (fam f p6 o6) f w 6 dF 0 (List.replicate 720 0) (List.replicate 37 0) = some ((va6 x y hx hy).choose.1, (va6 x y hx hy).choose.2) := fun x y hx hy ex ey => by
      subst ex ey
      exact (va6 x y hx hy).choose_spec
    exact key _ _ (by omega) (by omega) e1 e2
