theorem pl_mem {L T : List Cond} (ps : List Nat) (h : L.map some = ps.map (fun k => T[k]?)) : ∀ w ∈ L, w ∈ T := by
  intro w hw
  have h2 : some w ∈ L.map some := List.mem_map_of_mem hw
  rw [h] at h2
  obtain ⟨k, -, hk⟩ := List.mem_map.mp h2
  exact List.mem_of_getElem? hk

set_option maxRecDepth 100000 in
theorem xa_44 : ∀ w ∈ xWs "StreetGraph" 44 48 "java/lang/IndexOutOfBoundsException", w ∈ lwT ∨ w ∈ thrW := by
  have h1 := pl_mem (T := lw_tbl ++ thrW) (L := xWs "StreetGraph" 44 48 "java/lang/IndexOutOfBoundsException") [413, 42, 39, 435, 444, 449, 452, 454, 436, 437, 58, 59, 438, 443, 450, 470, 425, 471, 427, 472, 429, 439, 440, 441, 442, 431, 466, 467, 469, 431, 457, 458, 459, 460, 417, 460, 461, 462, 463, 419, 463, 464, 465, 466, 421, 456, 414, 415, 422, 423, 424, 426, 428, 430, 1105, 1106, 434, 433, 432] (by rfl)
  have h2 : ∀ w ∈ xWs "StreetGraph" 44 48 "java/lang/IndexOutOfBoundsException", goodWord w = true ∨ w ∈ thrW := by decide +kernel
  exact fun w hw => (List.mem_append.mp (h1 w hw)).elim (fun m => (h2 w hw).imp (fun g => List.mem_filter.mpr ⟨m, g⟩) id) Or.inr

set_option maxRecDepth 100000 in
theorem xa_55 : ∀ w ∈ xWs "StreetGraph" 55 59 "java/lang/UnsupportedOperationException", w ∈ lwT ∨ w ∈ thrW := by
  have h1 := pl_mem (T := lw_tbl ++ thrW) (L := xWs "StreetGraph" 55 59 "java/lang/UnsupportedOperationException") [485, 43, 39, 435, 444, 449, 452, 454, 436, 437, 58, 59, 438, 443, 450, 470, 425, 471, 427, 472, 429, 439, 440, 441, 442, 431, 466, 467, 469, 431, 496, 497, 498, 460, 417, 460, 461, 462, 463, 419, 463, 464, 465, 466, 421, 495, 486, 487, 488, 448, 489, 490, 491, 492, 1105, 1106, 434, 433, 493] (by rfl)
  have h2 : ∀ w ∈ xWs "StreetGraph" 55 59 "java/lang/UnsupportedOperationException", goodWord w = true ∨ w ∈ thrW := by decide +kernel
  exact fun w hw => (List.mem_append.mp (h1 w hw)).elim (fun m => (h2 w hw).imp (fun g => List.mem_filter.mpr ⟨m, g⟩) id) Or.inr

set_option maxRecDepth 100000 in
theorem xa_75 : ∀ w ∈ xWs "StreetGraph" 75 79 "java/lang/IllegalStateException", w ∈ lwT ∨ w ∈ thrW := by
  have h1 := pl_mem (T := lw_tbl ++ thrW) (L := xWs "StreetGraph" 75 79 "java/lang/IllegalStateException") [702, 49, 39, 435, 444, 449, 452, 454, 436, 437, 58, 59, 438, 443, 450, 470, 425, 471, 427, 472, 429, 439, 440, 441, 442, 431, 466, 467, 469, 431, 713, 714, 715, 460, 417, 460, 461, 462, 463, 419, 463, 464, 465, 466, 421, 712, 703, 704, 705, 447, 706, 707, 708, 709, 1105, 1106, 434, 433, 710] (by rfl)
  have h2 : ∀ w ∈ xWs "StreetGraph" 75 79 "java/lang/IllegalStateException", goodWord w = true ∨ w ∈ thrW := by decide +kernel
  exact fun w hw => (List.mem_append.mp (h1 w hw)).elim (fun m => (h2 w hw).imp (fun g => List.mem_filter.mpr ⟨m, g⟩) id) Or.inr

set_option maxRecDepth 100000 in
theorem xa_99 : ∀ w ∈ xWs "StreetGraph" 99 103 "java/lang/IllegalArgumentException", w ∈ lwT ∨ w ∈ thrW := by
  have h1 := pl_mem (T := lw_tbl ++ thrW) (L := xWs "StreetGraph" 99 103 "java/lang/IllegalArgumentException") [732, 50, 39, 435, 444, 449, 452, 454, 436, 437, 58, 59, 438, 443, 450, 470, 425, 471, 427, 472, 429, 439, 440, 441, 442, 431, 466, 467, 469, 431, 743, 744, 745, 460, 417, 460, 461, 462, 463, 419, 463, 464, 465, 466, 421, 742, 733, 734, 735, 446, 736, 737, 738, 739, 1105, 1106, 434, 433, 740] (by rfl)
  have h2 : ∀ w ∈ xWs "StreetGraph" 99 103 "java/lang/IllegalArgumentException", goodWord w = true ∨ w ∈ thrW := by decide +kernel
  exact fun w hw => (List.mem_append.mp (h1 w hw)).elim (fun m => (h2 w hw).imp (fun g => List.mem_filter.mpr ⟨m, g⟩) id) Or.inr
