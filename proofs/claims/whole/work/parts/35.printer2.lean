section AC
variable {p : Program} {l : Launch} {e : Env} {R : Room} {s : State} {m : MethodId} {args : Array Value} {below : List Frame} {meth : Method} {c : Code} {H : Heap} {locs : List Loc} {cells slots : Nat} {Q : State → Prop}
variable {cc : ByteArray} {pc : Nat} {ls : Array Slot} {rest : List Value} {G : Gx} {a lo : Nat} {V : Vw}
theorem v_ialdN (hexec : p.tables.exec = Jvm.exec) (hb : c.code = cc) (hK : gK G lo s) (hV : vS G.1 cls lo s H locs V) {n : Nat} {f : Nat → Int32} (ha : V a = some (eI (gI G) n f)) {j : Nat} (hj : j < n) (hN : n < 2 ^ 31) (hdg : decode cc pc = .ok (.iaload, 1))
    (kk : W p l e R s m args below meth c H locs cells slots Q (F0 m (pc + 1) ls (.int (f j) :: rest))) : W p l e R s m args below meth c H locs cells slots Q (F0 m pc ls (.int (nI j) :: .ref a :: rest)) := by
  refine v_iald hexec hb hK.1 hV 0 ha rfl (vp_in_nI hj hN) hdg ?_
  rw [nI_clamp (Nat.lt_trans hj hN)]
  exact kk
end AC
theorem kindN_128 : ∀ j, j < 5 → kindN j < 128 := by decide +kernel
theorem nmA_eq {o : Option (List Nat × Nat)} (h : nmA o = -1) (hv : nmV o) : prNm o = [] := by rw [nmA_m h hv]; rfl
theorem nmA_ne {o : Option (List Nat × Nat)} (h : ¬ nmA o = -1) : ∃ ls ar, o = some (ls, ar) := by
  cases o with
  | none => exact absurd rfl h
  | some x => exact ⟨x.1, x.2, rfl⟩
theorem prPs_le {G : Gx} {V : Vw} {dy sz : Nat} {pf : Nat → Option Nat} {Q : Nat → Option PcR} (h : twB G V dy sz pf Q) : ∀ k, k ≤ 60 → (prPs Q k).length ≤ 66 * k
  | 0, _ => by simp [prPs]
  | k + 1, hk => by
    have ih := prPs_le h k (by omega)
    rcases h (k + 1) (by omega) hk with ⟨-, q⟩ | ⟨a, R, -, q, q3, -⟩
    · rw [prPs_n q]; omega
    · have := prPc_le q3.2.2 hk
      rw [prPs_s q, List.length_append]
      omega
theorem vU_ext {V : Vw} : ∀ {cs : va_W} {a : Nat} {e : va_E}, vU V cs a = some e → a ∉ cs.map Prod.fst → vU V cs = vU V (cs ++ [(a, e)])
  | [], a, e, h, _ => (vup_id V a h).symm
  | x :: cs, a, e, h, hn => by
    have h1 : a ≠ x.1 := fun z => hn (by simp [z])
    have h2 : a ∉ cs.map Prod.fst := fun z => hn (List.mem_cons_of_mem _ z)
    have h3 : vU V cs a = some e := by
      have : va_up (vU V cs) x.1 (some x.2) a = some e := h
      rw [vup_ne _ h1] at this
      exact this
    show va_up (vU V cs) x.1 (some x.2) = va_up (vU V (cs ++ [(a, e)])) x.1 (some x.2)
    rw [← vU_ext h3 h2]
theorem prH_mono (hs : List Tri) (i : Nat) : ∀ k, i ≤ k → (prH hs i).length ≤ (prH hs k).length
  | 0, h => by rw [show i = 0 by omega]; exact Nat.le_refl _
  | k + 1, h => by
    by_cases he : i = k + 1
    · rw [he]; exact Nat.le_refl _
    · have := prH_mono hs i k (by omega)
      simp only [prH, List.length_append]
      omega

set_option maxHeartbeats 4000000 in
set_option maxRecDepth 100000 in
/-- Printer.putPiece -/
theorem c_Pr_putPiece (l : Launch) (G : Gx) (lo : Nat) (V : Vw) (sz : Nat) (pr bs : Nat) (fo : Nat → Int32) (PB : List Nat) (pa dy : Nat) (R : PcR) (hn : [pr, bs].Nodup) (hO : prOk fo PB) (hp : pcAt G V pa R) (hdc : ∀ a ∈ [pr, bs], a < dy) (hdhp : dy ≤ pa) (j : Nat) (hj1 : 1 ≤ j) (hj2 : j ≤ 60) (hF : PB.length + (prPc j R).length ≤ 4880) : Met l y_Pr_putPiece ws_Pr_putPiece ({ frames := 5, cells := 0, slots := 0, locals := 120 } : Room) (vPre G lo [.ref pr, .int (nI j), .ref pa] (vU V [(pr, eO 2 [.ref bs, .int (nI PB.length)]), (bs, eI (gB G) 4880 fo)]) sz) (vPost G lo (fun r V' k => r = none ∧ (∃ f1 : Nat → Int32, V' = vU V [(pr, eO 2 [.ref bs, .int (nI ((PB ++ prPc j R).length))]), (bs, eI (gB G) 4880 f1)] ∧ prOk f1 (PB ++ prPc j R)) ∧ k = sz)) 0 0 (vL lo) := by
  refine vMet (R := RPr) (by decide) rfl (Nat.le_of_ble_eq_true rfl) ?_
  intro pg ev s mi args below meth cd hx hb hr hml hlk hnm hts hown hK hz hV ls hl
  have hl : lv_has ls 4 [(0, .ref pr), (1, .int (nI j)), (2, .ref pa)] := hl
  have hV0 := hV
  obtain ⟨H, hH⟩ : ∃ H, H = s.heap := ⟨_, rfl⟩
  obtain ⟨locs, hlocs⟩ : ∃ locs : List Loc, locs = [] := ⟨_, rfl⟩
  rw [← hH, ← hlocs]
  rw [← hH] at hz
  replace hV : vS G.1 cls lo s H locs (vU V [(pr, eO 2 [.ref bs, .int (nI PB.length)]), (bs, eI (gB G) 4880 fo)]) := by rw [hH, hlocs]; exact hV
  clear hH hlocs hV0
  obtain ⟨hpo, ⟨h1, h2, h3, q1, q2, q3, hH⟩, hR⟩ := id hp
  obtain ⟨⟨r1, r2, r3, r4⟩, ⟨r5, r6, r7, r8, r9⟩, ⟨r10, r11⟩, ⟨r12, r13⟩, r14⟩ := id hR
  have b174 : ∀ (P9 : List Nat) (fo : Nat → Int32), (prOk fo (P9)) → (P9 ++ [59] = PB ++ prPc j R) → ∀ (H : Heap) (locs : List Loc) (ls : Array Slot), H.size = sz → vS G.1 cls lo s H locs (vU V [(pr, eO 2 [.ref bs, .int (nI P9.length)]), (bs, eI (gB G) 4880 fo)]) → lv_has ls 4 [(0, .ref pr), (1, .int (nI j)), (2, .ref pa)] → W pg l ev ({ frames := 5, cells := 0, slots := 0, locals := 120 } : Room) s mi args below meth cd H locs 0 0 (MQ below (vPost G lo (fun r V' k => r = none ∧ (∃ f1 : Nat → Int32, V' = vU V [(pr, eO 2 [.ref bs, .int (nI ((PB ++ prPc j R).length))]), (bs, eI (gB G) 4880 f1)] ∧ prOk f1 (PB ++ prPc j R)) ∧ k = sz)) args s 0 0 (vL lo)) (F0 mi 174 ls []) := by
    intro P9 fo  hO he H locs ls hz hV hl
    refine lv_aload_n hx hb d_Pr_putPiece_174 rfl (lv_at hl 0 rfl) ?_
    refine lv_bipush (v := 59) hx hb d_Pr_putPiece_175 (by decide) ?_
    refine v_call (va_runV (As := [.int 59]) (rest := []) ⟨hx, hb, hml, hown, hts⟩ (c_Pr_put l G lo _ _ pr bs fo P9 hn hO 59 (by first | decide | omega) (by have hl9 := congrArg List.length he; simp only [List.length_append, List.length_singleton] at hl9 ⊢; omega)) (kwV 1 hts w_co_Pr_put rfl rfl w_it_Pr w_ml_Pr_88 w_im_Pr_put w_se_Pr__Pr_put (by decide +kernel) ⟨(Nat.le_of_ble_eq_true rfl), (Nat.le_of_ble_eq_true rfl)⟩) (u_preV hK hV hn [0, 1] rfl hz 0 rfl rfl) rfl rfl hl.1 rfl (lv_room (Nat.le_of_ble_eq_true rfl)) d_Pr_putPiece_177 ⟨(Nat.le_of_ble_eq_true rfl), (Nat.le_of_ble_eq_true rfl)⟩) hV (fun r9 V9 H locs hp hV hle => ?_)
    obtain ⟨rfl, ⟨g_1, rfl, hO_g_1⟩, hz⟩ := hp
    replace hV := u_back hV hn [0, 1] rfl
    have hV : vS G.1 cls lo s H locs (vU V [(pr, eO 2 [.ref bs, .int (nI ((P9 ++ [59]).length))]), (bs, eI (gB G) 4880 g_1)]) := hV
    rw [he] at hV hO_g_1
    exact W.vret hx hb hr (v_end hV ⟨rfl, ⟨_, rfl, hO_g_1⟩, hz⟩) hV.2.1.2.2 d_Pr_putPiece_180
  have b161 : ∀ (P9 : List Nat) (fo : Nat → Int32), (prOk fo (P9)) → (P9 ++ (prNm R.2.2.2.2 ++ [59]) = PB ++ prPc j R) → ∀ (H : Heap) (locs : List Loc) (ls : Array Slot), H.size = sz → vS G.1 cls lo s H locs (vU V [(pr, eO 2 [.ref bs, .int (nI P9.length)]), (bs, eI (gB G) 4880 fo)]) → lv_has ls 4 [(0, .ref pr), (1, .int (nI j)), (2, .ref pa)] → W pg l ev ({ frames := 5, cells := 0, slots := 0, locals := 120 } : Room) s mi args below meth cd H locs 0 0 (MQ below (vPost G lo (fun r V' k => r = none ∧ (∃ f1 : Nat → Int32, V' = vU V [(pr, eO 2 [.ref bs, .int (nI ((PB ++ prPc j R).length))]), (bs, eI (gB G) 4880 f1)] ∧ prOk f1 (PB ++ prPc j R)) ∧ k = sz)) args s 0 0 (vL lo)) (F0 mi 161 ls []) := by
    intro P9 fo  hO he H locs ls hz hV hl
    refine lv_aload_n hx hb d_Pr_putPiece_161 rfl (lv_at hl 2 rfl) ?_
    refine v_get hx hb hts inPc hown hK.1 hV (pcAt_vU (cs := [(pr, eO 2 [.ref bs, .int (nI P9.length)]), (bs, eI (gB G) 4880 fo)]) hp hdc hdhp).1 rfl 14 (by decide) (hts _ w_fl_Pr_98) (fun _ h9 => h9) rfl d_Pr_putPiece_162 ?_
    refine lv_iconst (v := (-1)) hx hb d_Pr_putPiece_165 (by decide) ?_
    refine lv_icmp_eq (tgt := 174) hx hb d_Pr_putPiece_166 (by decide) (fun c_2 => ?_) (fun c_2 => ?_)
    · rw [nmA_eq c_2 r14, List.nil_append] at he
      exact b174 (P9) fo hO (by rw [← he] <;> simp only [List.append_assoc]) H locs ls hz hV (lv_sub hl [0, 1, 2] rfl)
    · obtain ⟨ls0, ar, hNm⟩ := nmA_ne c_2
      refine lv_aload_n hx hb d_Pr_putPiece_169 rfl (lv_at hl 0 rfl) ?_
      refine lv_aload_n hx hb d_Pr_putPiece_170 rfl (lv_at hl 2 rfl) ?_
      have hA : vU V [(pr, eO 2 [.ref bs, .int (nI P9.length)]), (bs, eI (gB G) 4880 fo)] pa = some (eO 1 (pcFs R (pa + 1) (pa + 2) (pa + 3))) := (pcAt_vU (cs := [(pr, eO 2 [.ref bs, .int (nI P9.length)]), (bs, eI (gB G) 4880 fo)]) hp hdc hdhp).1
      have eW : vU V [(pr, eO 2 [.ref bs, .int (nI P9.length)]), (bs, eI (gB G) 4880 fo)] = vU V ([(pr, eO 2 [.ref bs, .int (nI P9.length)]), (bs, eI (gB G) 4880 fo)] ++ [(pa, eO 1 (pcFs R (pa + 1) (pa + 2) (pa + 3)))]) := vU_ext hA (by simp only [List.map_cons, List.map_nil, List.mem_cons, List.not_mem_nil, or_false, not_or]; have := hdc pr (by simp); have := hdc bs (by simp); omega)
      rw [eW] at hV
      have hn3 : [pr, bs, pa].Nodup := by have := hdc pr (by simp); have := hdc bs (by simp); simp only [List.nodup_cons, List.mem_cons, List.not_mem_nil, or_false, not_or, List.nodup_nil, not_false_eq_true, and_true] at hn ⊢; omega
      refine v_call (va_runV (As := [.ref pa]) (rest := []) ⟨hx, hb, hml, hown, hts⟩ (c_Pr_putNameAndArea l G lo _ _ pr bs fo P9 pa (pa + 1) (pa + 2) (pa + 3) R hR ls0 ar hNm hn3 hO (by have hl9 := congrArg List.length he; simp only [List.length_append, List.length_singleton] at hl9 ⊢; omega)) (kwV 1 hts w_co_Pr_putNameAndArea rfl rfl w_it_Pr w_ml_Pr_101 w_im_Pr_putNameAndArea w_se_Pr__Pr_putNameAndArea (by decide +kernel) ⟨(Nat.le_of_ble_eq_true rfl), (Nat.le_of_ble_eq_true rfl)⟩) (u_preV hK hV hn3 [0, 1, 2] rfl hz 0 rfl rfl) rfl rfl hl.1 rfl (lv_room (Nat.le_of_ble_eq_true rfl)) d_Pr_putPiece_171 ⟨(Nat.le_of_ble_eq_true rfl), (Nat.le_of_ble_eq_true rfl)⟩) hV (fun r9 V9 H locs hp9 hV hle => ?_)
      obtain ⟨rfl, ⟨g_3, rfl, hO_g_3⟩, hz⟩ := hp9
      replace hV := u_back hV hn3 [0, 1, 2] rfl
      have hV : vS G.1 cls lo s H locs (vU V ([(pr, eO 2 [.ref bs, .int (nI ((P9 ++ prNm R.2.2.2.2).length))]), (bs, eI (gB G) 4880 g_3)] ++ [(pa, eO 1 (pcFs R (pa + 1) (pa + 2) (pa + 3)))])) := hV
      rw [← vU_ext (cs := [(pr, eO 2 [.ref bs, .int (nI ((P9 ++ prNm R.2.2.2.2).length))]), (bs, eI (gB G) 4880 g_3)]) (pcAt_vU (cs := [(pr, eO 2 [.ref bs, .int (nI ((P9 ++ prNm R.2.2.2.2).length))]), (bs, eI (gB G) 4880 g_3)]) hp hdc hdhp).1 (by simp only [List.map_cons, List.map_nil, List.mem_cons, List.not_mem_nil, or_false, not_or]; have := hdc pr (by simp); have := hdc bs (by simp); omega)] at hV
      have hV : vS G.1 cls lo s H locs (vU V [(pr, eO 2 [.ref bs, .int (nI ((P9 ++ prNm R.2.2.2.2).length))]), (bs, eI (gB G) 4880 g_3)]) := hV
      exact b174 (P9 ++ prNm R.2.2.2.2) g_3 hO_g_3 (by rw [← he] <;> simp only [List.append_assoc]) H locs ls hz hV (lv_sub hl [0, 1, 2] rfl)
  have b144 : ∀ (P9 : List Nat) (fo : Nat → Int32), (prOk fo (P9)) → (P9 ++ (prLm 33 R.2.2.2.1.2 ++ (prNm R.2.2.2.2 ++ [59])) = PB ++ prPc j R) → ∀ (H : Heap) (locs : List Loc) (ls : Array Slot), H.size = sz → vS G.1 cls lo s H locs (vU V [(pr, eO 2 [.ref bs, .int (nI P9.length)]), (bs, eI (gB G) 4880 fo)]) → lv_has ls 4 [(0, .ref pr), (1, .int (nI j)), (2, .ref pa)] → W pg l ev ({ frames := 5, cells := 0, slots := 0, locals := 120 } : Room) s mi args below meth cd H locs 0 0 (MQ below (vPost G lo (fun r V' k => r = none ∧ (∃ f1 : Nat → Int32, V' = vU V [(pr, eO 2 [.ref bs, .int (nI ((PB ++ prPc j R).length))]), (bs, eI (gB G) 4880 f1)] ∧ prOk f1 (PB ++ prPc j R)) ∧ k = sz)) args s 0 0 (vL lo)) (F0 mi 144 ls []) := by
    intro P9 fo  hO he H locs ls hz hV hl
    refine lv_aload_n hx hb d_Pr_putPiece_144 rfl (lv_at hl 2 rfl) ?_
    refine v_get hx hb hts inPc hown hK.1 hV (pcAt_vU (cs := [(pr, eO 2 [.ref bs, .int (nI P9.length)]), (bs, eI (gB G) 4880 fo)]) hp hdc hdhp).1 rfl 11 (by decide) (hts _ w_fl_Pr_95) (fun _ h9 => h9) rfl d_Pr_putPiece_145 ?_
    refine lv_if_eq (tgt := 161) hx hb d_Pr_putPiece_148 (by decide) (fun c_4 => ?_) (fun c_4 => ?_)
    · replace c_4 : R.2.2.2.1.2 = 0 := (nI_eq (a := R.2.2.2.1.2) (b := 0) (by omega) (by omega)).mp c_4
      rw [show prLm 33 R.2.2.2.1.2 = [] from if_pos c_4, List.nil_append] at he
      exact b161 (P9) fo hO (by rw [← he] <;> simp only [List.append_assoc]) H locs ls hz hV (lv_sub hl [0, 1, 2] rfl)
    · replace c_4 : ¬ R.2.2.2.1.2 = 0 := fun z9 => c_4 ((nI_eq (a := R.2.2.2.1.2) (b := 0) (by omega) (by omega)).mpr z9)
      rw [show prLm 33 R.2.2.2.1.2 = pN 33 R.2.2.2.1.2 from if_neg c_4] at he
      refine lv_aload_n hx hb d_Pr_putPiece_151 rfl (lv_at hl 0 rfl) ?_
      refine lv_bipush (v := 33) hx hb d_Pr_putPiece_152 (by decide) ?_
      refine lv_aload_n hx hb d_Pr_putPiece_154 rfl (lv_at hl 2 rfl) ?_
      refine v_get hx hb hts inPc hown hK.1 hV (pcAt_vU (cs := [(pr, eO 2 [.ref bs, .int (nI P9.length)]), (bs, eI (gB G) 4880 fo)]) hp hdc hdhp).1 rfl 11 (by decide) (hts _ w_fl_Pr_95) (fun _ h9 => h9) rfl d_Pr_putPiece_155 ?_
      refine v_call (va_runV (As := [.int 33, .int (nI R.2.2.2.1.2)]) (rest := []) ⟨hx, hb, hml, hown, hts⟩ (c_Pr_putWithNumber l G lo _ _ pr bs fo P9 hn hO 33 R.2.2.2.1.2 (by first | decide | omega) (by omega) (by have hl9 := congrArg List.length he; simp only [List.length_append, List.length_singleton] at hl9 ⊢; omega)) (kwV 2 hts w_co_Pr_putWithNumber rfl rfl w_it_Pr w_ml_Pr_48 w_im_Pr_putWithNumber w_se_Pr__Pr_putWithNumber (by decide +kernel) ⟨(Nat.le_of_ble_eq_true rfl), (Nat.le_of_ble_eq_true rfl)⟩) (u_preV hK hV hn [0, 1] rfl hz 0 rfl rfl) rfl rfl hl.1 rfl (lv_room (Nat.le_of_ble_eq_true rfl)) d_Pr_putPiece_158 ⟨(Nat.le_of_ble_eq_true rfl), (Nat.le_of_ble_eq_true rfl)⟩) hV (fun r9 V9 H locs hp hV hle => ?_)
      obtain ⟨rfl, ⟨g_5, rfl, hO_g_5⟩, hz⟩ := hp
      replace hV := u_back hV hn [0, 1] rfl
      have hV : vS G.1 cls lo s H locs (vU V [(pr, eO 2 [.ref bs, .int (nI ((P9 ++ pN 33 R.2.2.2.1.2).length))]), (bs, eI (gB G) 4880 g_5)]) := hV
      exact b161 (P9 ++ pN 33 R.2.2.2.1.2) g_5 hO_g_5 (by rw [← he] <;> simp only [List.append_assoc]) H locs ls hz hV (lv_sub hl [0, 1, 2] rfl)
  have b127 : ∀ (P9 : List Nat) (fo : Nat → Int32), (prOk fo (P9)) → (P9 ++ (prLm 94 R.2.2.2.1.1 ++ (prLm 33 R.2.2.2.1.2 ++ (prNm R.2.2.2.2 ++ [59]))) = PB ++ prPc j R) → ∀ (H : Heap) (locs : List Loc) (ls : Array Slot), H.size = sz → vS G.1 cls lo s H locs (vU V [(pr, eO 2 [.ref bs, .int (nI P9.length)]), (bs, eI (gB G) 4880 fo)]) → lv_has ls 4 [(0, .ref pr), (1, .int (nI j)), (2, .ref pa)] → W pg l ev ({ frames := 5, cells := 0, slots := 0, locals := 120 } : Room) s mi args below meth cd H locs 0 0 (MQ below (vPost G lo (fun r V' k => r = none ∧ (∃ f1 : Nat → Int32, V' = vU V [(pr, eO 2 [.ref bs, .int (nI ((PB ++ prPc j R).length))]), (bs, eI (gB G) 4880 f1)] ∧ prOk f1 (PB ++ prPc j R)) ∧ k = sz)) args s 0 0 (vL lo)) (F0 mi 127 ls []) := by
    intro P9 fo  hO he H locs ls hz hV hl
    refine lv_aload_n hx hb d_Pr_putPiece_127 rfl (lv_at hl 2 rfl) ?_
    refine v_get hx hb hts inPc hown hK.1 hV (pcAt_vU (cs := [(pr, eO 2 [.ref bs, .int (nI P9.length)]), (bs, eI (gB G) 4880 fo)]) hp hdc hdhp).1 rfl 10 (by decide) (hts _ w_fl_Pr_92) (fun _ h9 => h9) rfl d_Pr_putPiece_128 ?_
    refine lv_if_eq (tgt := 144) hx hb d_Pr_putPiece_131 (by decide) (fun c_6 => ?_) (fun c_6 => ?_)
    · replace c_6 : R.2.2.2.1.1 = 0 := (nI_eq (a := R.2.2.2.1.1) (b := 0) (by omega) (by omega)).mp c_6
      rw [show prLm 94 R.2.2.2.1.1 = [] from if_pos c_6, List.nil_append] at he
      exact b144 (P9) fo hO (by rw [← he] <;> simp only [List.append_assoc]) H locs ls hz hV (lv_sub hl [0, 1, 2] rfl)
    · replace c_6 : ¬ R.2.2.2.1.1 = 0 := fun z9 => c_6 ((nI_eq (a := R.2.2.2.1.1) (b := 0) (by omega) (by omega)).mpr z9)
      rw [show prLm 94 R.2.2.2.1.1 = pN 94 R.2.2.2.1.1 from if_neg c_6] at he
      refine lv_aload_n hx hb d_Pr_putPiece_134 rfl (lv_at hl 0 rfl) ?_
      refine lv_bipush (v := 94) hx hb d_Pr_putPiece_135 (by decide) ?_
      refine lv_aload_n hx hb d_Pr_putPiece_137 rfl (lv_at hl 2 rfl) ?_
      refine v_get hx hb hts inPc hown hK.1 hV (pcAt_vU (cs := [(pr, eO 2 [.ref bs, .int (nI P9.length)]), (bs, eI (gB G) 4880 fo)]) hp hdc hdhp).1 rfl 10 (by decide) (hts _ w_fl_Pr_92) (fun _ h9 => h9) rfl d_Pr_putPiece_138 ?_
      refine v_call (va_runV (As := [.int 94, .int (nI R.2.2.2.1.1)]) (rest := []) ⟨hx, hb, hml, hown, hts⟩ (c_Pr_putWithNumber l G lo _ _ pr bs fo P9 hn hO 94 R.2.2.2.1.1 (by first | decide | omega) (by omega) (by have hl9 := congrArg List.length he; simp only [List.length_append, List.length_singleton] at hl9 ⊢; omega)) (kwV 2 hts w_co_Pr_putWithNumber rfl rfl w_it_Pr w_ml_Pr_48 w_im_Pr_putWithNumber w_se_Pr__Pr_putWithNumber (by decide +kernel) ⟨(Nat.le_of_ble_eq_true rfl), (Nat.le_of_ble_eq_true rfl)⟩) (u_preV hK hV hn [0, 1] rfl hz 0 rfl rfl) rfl rfl hl.1 rfl (lv_room (Nat.le_of_ble_eq_true rfl)) d_Pr_putPiece_141 ⟨(Nat.le_of_ble_eq_true rfl), (Nat.le_of_ble_eq_true rfl)⟩) hV (fun r9 V9 H locs hp hV hle => ?_)
      obtain ⟨rfl, ⟨g_7, rfl, hO_g_7⟩, hz⟩ := hp
      replace hV := u_back hV hn [0, 1] rfl
      have hV : vS G.1 cls lo s H locs (vU V [(pr, eO 2 [.ref bs, .int (nI ((P9 ++ pN 94 R.2.2.2.1.1).length))]), (bs, eI (gB G) 4880 g_7)]) := hV
      exact b144 (P9 ++ pN 94 R.2.2.2.1.1) g_7 hO_g_7 (by rw [← he] <;> simp only [List.append_assoc]) H locs ls hz hV (lv_sub hl [0, 1, 2] rfl)
  have loop : ∀ (k : Nat) (i : Nat) (P9 : List Nat) (fo : Nat → Int32), R.2.2.1.length - i < k → (prOk fo (P9 ++ prH R.2.2.1 i)) → (P9 ++ (prH R.2.2.1 R.2.2.1.length ++ (prLm 94 R.2.2.2.1.1 ++ (prLm 33 R.2.2.2.1.2 ++ (prNm R.2.2.2.2 ++ [59])))) = PB ++ prPc j R) → (i ≤ R.2.2.1.length) → ∀ (H : Heap) (locs : List Loc) (ls : Array Slot), H.size = sz → vS G.1 cls lo s H locs (vU V [(pr, eO 2 [.ref bs, .int (nI ((P9 ++ prH R.2.2.1 i).length))]), (bs, eI (gB G) 4880 fo)]) → lv_has ls 4 [(0, .ref pr), (1, .int (nI j)), (2, .ref pa), (3, .int (nI i))] → W pg l ev ({ frames := 5, cells := 0, slots := 0, locals := 120 } : Room) s mi args below meth cd H locs 0 0 (MQ below (vPost G lo (fun r V' k => r = none ∧ (∃ f1 : Nat → Int32, V' = vU V [(pr, eO 2 [.ref bs, .int (nI ((PB ++ prPc j R).length))]), (bs, eI (gB G) 4880 f1)] ∧ prOk f1 (PB ++ prPc j R)) ∧ k = sz)) args s 0 0 (vL lo)) (F0 mi 66 ls []) := by
    intro k
    induction k with
    | zero => intro i P9 fo hk; exact absurd hk (by omega)
    | succ k ih =>
      intro i P9 fo hk hO he hi H locs ls hz hV hl
      refine lv_iload_n hx hb d_Pr_putPiece_66 rfl (lv_at hl 3 rfl) ?_
      refine lv_aload_n hx hb d_Pr_putPiece_67 rfl (lv_at hl 2 rfl) ?_
      refine v_get hx hb hts inPc hown hK.1 hV (pcAt_vU (cs := [(pr, eO 2 [.ref bs, .int (nI ((P9 ++ prH R.2.2.1 i).length))]), (bs, eI (gB G) 4880 fo)]) hp hdc hdhp).1 rfl 6 (by decide) (hts _ w_fl_Pr_75) (fun _ h9 => h9) rfl d_Pr_putPiece_68 ?_
      refine lv_icmp_ge (tgt := 127) hx hb d_Pr_putPiece_71 (by decide) (fun c_8 => ?_) (fun c_8 => ?_)
      · replace c_8 : R.2.2.1.length ≤ i := (nI_leI (a := R.2.2.1.length) (b := i) (by omega) (by omega)).mp c_8
        have eI9 : i = R.2.2.1.length := by omega
        subst eI9
        exact b127 (P9 ++ prH R.2.2.1 R.2.2.1.length) fo hO (by rw [← he]; simp only [List.append_assoc]) H locs ls hz hV (lv_sub hl [0, 1, 2] rfl)
      · replace c_8 : ¬ R.2.2.1.length ≤ i := fun z9 => c_8 ((nI_leI (a := R.2.2.1.length) (b := i) (by omega) (by omega)).mpr z9)
        obtain ⟨o1, o2, o3⟩ := hH i (by omega)
        obtain ⟨o4, o5, o6, o7⟩ := r11 i (by omega)
        have hH9 := prH_le ⟨r10, r11⟩ (i + 1) (by omega)
        have hM9 := prH_mono R.2.2.1 (i + 1) R.2.2.1.length (by omega)
        simp only [prH, List.length_append, List.length_singleton] at hM9
        refine lv_iload_n hx hb d_Pr_putPiece_74 rfl (lv_at hl 3 rfl) ?_
        refine lv_iconst (v := 3) hx hb d_Pr_putPiece_75 (by decide) ?_
        refine lv_icmp_ge (tgt := 127) hx hb d_Pr_putPiece_76 (by decide) (fun c_9 => absurd c_9 (nI_ge (a := i) (b := 3) (by omega) (by decide))) (fun c_9 => ?_)
        replace c_9 : ¬ 3 ≤ i := fun z9 => c_9 ((nI_leI (a := 3) (b := i) (by omega) (by omega)).mpr z9)
        refine lv_aload_n hx hb d_Pr_putPiece_79 rfl (lv_at hl 0 rfl) ?_
        refine lv_bipush (v := 91) hx hb d_Pr_putPiece_80 (by decide) ?_
        refine lv_aload_n hx hb d_Pr_putPiece_82 rfl (lv_at hl 2 rfl) ?_
        refine v_get hx hb hts inPc hown hK.1 hV (pcAt_vU (cs := [(pr, eO 2 [.ref bs, .int (nI ((P9 ++ prH R.2.2.1 i).length))]), (bs, eI (gB G) 4880 fo)]) hp hdc hdhp).1 rfl 7 (by decide) (hts _ w_fl_Pr_78) (fun _ h9 => h9) rfl d_Pr_putPiece_83 ?_
        refine lv_iload_n hx hb d_Pr_putPiece_86 rfl (lv_at hl 3 rfl) ?_
        refine v_ialdN hx hb hK hV ((vU_hi (cs := [(pr, eO 2 [.ref bs, .int (nI ((P9 ++ prH R.2.2.1 i).length))]), (bs, eI (gB G) 4880 fo)]) hdc (by omega)).trans q1) (by omega) (by decide) d_Pr_putPiece_87 ?_
        rw [o1]
        refine v_call (va_runV (As := [.int 91, .int (nI ((R.2.2.1.getD i z3).1))]) (rest := []) ⟨hx, hb, hml, hown, hts⟩ (c_Pr_putWithNumber l G lo _ _ pr bs fo (P9 ++ prH R.2.2.1 i) hn hO 91 ((R.2.2.1.getD i z3).1) (by first | decide | omega) (by omega) (by have hl9 := congrArg List.length he; simp only [List.length_append, List.length_singleton] at hl9 ⊢; omega)) (kwV 2 hts w_co_Pr_putWithNumber rfl rfl w_it_Pr w_ml_Pr_48 w_im_Pr_putWithNumber w_se_Pr__Pr_putWithNumber (by decide +kernel) ⟨(Nat.le_of_ble_eq_true rfl), (Nat.le_of_ble_eq_true rfl)⟩) (u_preV hK hV hn [0, 1] rfl hz 0 rfl rfl) rfl rfl hl.1 rfl (lv_room (Nat.le_of_ble_eq_true rfl)) d_Pr_putPiece_88 ⟨(Nat.le_of_ble_eq_true rfl), (Nat.le_of_ble_eq_true rfl)⟩) hV (fun r9 V9 H locs hp hV hle => ?_)
        obtain ⟨rfl, ⟨g_10, rfl, hO_g_10⟩, hz⟩ := hp
        replace hV := u_back hV hn [0, 1] rfl
        have hV : vS G.1 cls lo s H locs (vU V [(pr, eO 2 [.ref bs, .int (nI ((P9 ++ prH R.2.2.1 i ++ pN 91 ((R.2.2.1.getD i z3).1)).length))]), (bs, eI (gB G) 4880 g_10)]) := hV
        refine lv_aload_n hx hb d_Pr_putPiece_91 rfl (lv_at hl 0 rfl) ?_
        refine lv_bipush (v := 45) hx hb d_Pr_putPiece_92 (by decide) ?_
        refine lv_aload_n hx hb d_Pr_putPiece_94 rfl (lv_at hl 2 rfl) ?_
        refine v_get hx hb hts inPc hown hK.1 hV (pcAt_vU (cs := [(pr, eO 2 [.ref bs, .int (nI ((P9 ++ prH R.2.2.1 i ++ pN 91 ((R.2.2.1.getD i z3).1)).length))]), (bs, eI (gB G) 4880 g_10)]) hp hdc hdhp).1 rfl 8 (by decide) (hts _ w_fl_Pr_82) (fun _ h9 => h9) rfl d_Pr_putPiece_95 ?_
        refine lv_iload_n hx hb d_Pr_putPiece_98 rfl (lv_at hl 3 rfl) ?_
        refine v_ialdN hx hb hK hV ((vU_hi (cs := [(pr, eO 2 [.ref bs, .int (nI ((P9 ++ prH R.2.2.1 i ++ pN 91 ((R.2.2.1.getD i z3).1)).length))]), (bs, eI (gB G) 4880 g_10)]) hdc (by omega)).trans q2) (by omega) (by decide) d_Pr_putPiece_99 ?_
        rw [o2]
        refine v_call (va_runV (As := [.int 45, .int (nI ((R.2.2.1.getD i z3).2.1))]) (rest := []) ⟨hx, hb, hml, hown, hts⟩ (c_Pr_putWithNumber l G lo _ _ pr bs g_10 (P9 ++ prH R.2.2.1 i ++ pN 91 ((R.2.2.1.getD i z3).1)) hn hO_g_10 45 ((R.2.2.1.getD i z3).2.1) (by first | decide | omega) (by omega) (by have hl9 := congrArg List.length he; simp only [List.length_append, List.length_singleton] at hl9 ⊢; omega)) (kwV 2 hts w_co_Pr_putWithNumber rfl rfl w_it_Pr w_ml_Pr_48 w_im_Pr_putWithNumber w_se_Pr__Pr_putWithNumber (by decide +kernel) ⟨(Nat.le_of_ble_eq_true rfl), (Nat.le_of_ble_eq_true rfl)⟩) (u_preV hK hV hn [0, 1] rfl hz 0 rfl rfl) rfl rfl hl.1 rfl (lv_room (Nat.le_of_ble_eq_true rfl)) d_Pr_putPiece_100 ⟨(Nat.le_of_ble_eq_true rfl), (Nat.le_of_ble_eq_true rfl)⟩) hV (fun r9 V9 H locs hp hV hle => ?_)
        obtain ⟨rfl, ⟨g_11, rfl, hO_g_11⟩, hz⟩ := hp
        replace hV := u_back hV hn [0, 1] rfl
        have hV : vS G.1 cls lo s H locs (vU V [(pr, eO 2 [.ref bs, .int (nI ((P9 ++ prH R.2.2.1 i ++ pN 91 ((R.2.2.1.getD i z3).1) ++ pN 45 ((R.2.2.1.getD i z3).2.1)).length))]), (bs, eI (gB G) 4880 g_11)]) := hV
        refine lv_aload_n hx hb d_Pr_putPiece_103 rfl (lv_at hl 0 rfl) ?_
        refine lv_bipush (v := 58) hx hb d_Pr_putPiece_104 (by decide) ?_
        refine lv_aload_n hx hb d_Pr_putPiece_106 rfl (lv_at hl 2 rfl) ?_
        refine v_get hx hb hts inPc hown hK.1 hV (pcAt_vU (cs := [(pr, eO 2 [.ref bs, .int (nI ((P9 ++ prH R.2.2.1 i ++ pN 91 ((R.2.2.1.getD i z3).1) ++ pN 45 ((R.2.2.1.getD i z3).2.1)).length))]), (bs, eI (gB G) 4880 g_11)]) hp hdc hdhp).1 rfl 9 (by decide) (hts _ w_fl_Pr_85) (fun _ h9 => h9) rfl d_Pr_putPiece_107 ?_
        refine lv_iload_n hx hb d_Pr_putPiece_110 rfl (lv_at hl 3 rfl) ?_
        refine v_ialdN hx hb hK hV ((vU_hi (cs := [(pr, eO 2 [.ref bs, .int (nI ((P9 ++ prH R.2.2.1 i ++ pN 91 ((R.2.2.1.getD i z3).1) ++ pN 45 ((R.2.2.1.getD i z3).2.1)).length))]), (bs, eI (gB G) 4880 g_11)]) hdc (by omega)).trans q3) (by omega) (by decide) d_Pr_putPiece_111 ?_
        rw [o3]
        refine v_call (va_runV (As := [.int 58, .int (nI ((R.2.2.1.getD i z3).2.2))]) (rest := []) ⟨hx, hb, hml, hown, hts⟩ (c_Pr_putWithNumber l G lo _ _ pr bs g_11 (P9 ++ prH R.2.2.1 i ++ pN 91 ((R.2.2.1.getD i z3).1) ++ pN 45 ((R.2.2.1.getD i z3).2.1)) hn hO_g_11 58 ((R.2.2.1.getD i z3).2.2) (by first | decide | omega) (by omega) (by have hl9 := congrArg List.length he; simp only [List.length_append, List.length_singleton] at hl9 ⊢; omega)) (kwV 2 hts w_co_Pr_putWithNumber rfl rfl w_it_Pr w_ml_Pr_48 w_im_Pr_putWithNumber w_se_Pr__Pr_putWithNumber (by decide +kernel) ⟨(Nat.le_of_ble_eq_true rfl), (Nat.le_of_ble_eq_true rfl)⟩) (u_preV hK hV hn [0, 1] rfl hz 0 rfl rfl) rfl rfl hl.1 rfl (lv_room (Nat.le_of_ble_eq_true rfl)) d_Pr_putPiece_112 ⟨(Nat.le_of_ble_eq_true rfl), (Nat.le_of_ble_eq_true rfl)⟩) hV (fun r9 V9 H locs hp hV hle => ?_)
        obtain ⟨rfl, ⟨g_12, rfl, hO_g_12⟩, hz⟩ := hp
        replace hV := u_back hV hn [0, 1] rfl
        have hV : vS G.1 cls lo s H locs (vU V [(pr, eO 2 [.ref bs, .int (nI ((P9 ++ prH R.2.2.1 i ++ pN 91 ((R.2.2.1.getD i z3).1) ++ pN 45 ((R.2.2.1.getD i z3).2.1) ++ pN 58 ((R.2.2.1.getD i z3).2.2)).length))]), (bs, eI (gB G) 4880 g_12)]) := hV
        refine lv_aload_n hx hb d_Pr_putPiece_115 rfl (lv_at hl 0 rfl) ?_
        refine lv_bipush (v := 93) hx hb d_Pr_putPiece_116 (by decide) ?_
        refine v_call (va_runV (As := [.int 93]) (rest := []) ⟨hx, hb, hml, hown, hts⟩ (c_Pr_put l G lo _ _ pr bs g_12 (P9 ++ prH R.2.2.1 i ++ pN 91 ((R.2.2.1.getD i z3).1) ++ pN 45 ((R.2.2.1.getD i z3).2.1) ++ pN 58 ((R.2.2.1.getD i z3).2.2)) hn hO_g_12 93 (by first | decide | omega) (by have hl9 := congrArg List.length he; simp only [List.length_append, List.length_singleton] at hl9 ⊢; omega)) (kwV 1 hts w_co_Pr_put rfl rfl w_it_Pr w_ml_Pr_88 w_im_Pr_put w_se_Pr__Pr_put (by decide +kernel) ⟨(Nat.le_of_ble_eq_true rfl), (Nat.le_of_ble_eq_true rfl)⟩) (u_preV hK hV hn [0, 1] rfl hz 0 rfl rfl) rfl rfl hl.1 rfl (lv_room (Nat.le_of_ble_eq_true rfl)) d_Pr_putPiece_118 ⟨(Nat.le_of_ble_eq_true rfl), (Nat.le_of_ble_eq_true rfl)⟩) hV (fun r9 V9 H locs hp hV hle => ?_)
        obtain ⟨rfl, ⟨g_13, rfl, hO_g_13⟩, hz⟩ := hp
        replace hV := u_back hV hn [0, 1] rfl
        have hV : vS G.1 cls lo s H locs (vU V [(pr, eO 2 [.ref bs, .int (nI ((P9 ++ prH R.2.2.1 i ++ pN 91 ((R.2.2.1.getD i z3).1) ++ pN 45 ((R.2.2.1.getD i z3).2.1) ++ pN 58 ((R.2.2.1.getD i z3).2.2) ++ [93]).length))]), (bs, eI (gB G) 4880 g_13)]) := hV
        have eP : P9 ++ prH R.2.2.1 i ++ pN 91 ((R.2.2.1.getD i z3).1) ++ pN 45 ((R.2.2.1.getD i z3).2.1) ++ pN 58 ((R.2.2.1.getD i z3).2.2) ++ [93] = P9 ++ prH R.2.2.1 (i + 1) := by simp only [prH, List.append_assoc]
        rw [eP] at hV hO_g_13
        refine lv_iinc (v := nI (i + 1)) (lv' := [(3, .int (nI (i + 1))), (0, .ref pr), (1, .int (nI j)), (2, .ref pa)]) hx hb d_Pr_putPiece_121 hl (k := 3) rfl (nI_add i 1) (by decide) rfl (fun ls hl => ?_)
        refine lv_goto (tgt := 66) hx hb d_Pr_putPiece_124 (by decide) ?_
        exact ih (i + 1) P9 g_13 (by omega) hO_g_13 he (by omega) H locs ls hz hV (lv_sub hl [1, 2, 3, 0] rfl)
  have b39 : ∀ (P9 : List Nat) (fo : Nat → Int32), (prOk fo (P9)) → (P9 ++ (pN 58 R.2.1.1 ++ (pN (kindN R.2.1.2.1) R.2.1.2.2 ++ (prH R.2.2.1 R.2.2.1.length ++ (prLm 94 R.2.2.2.1.1 ++ (prLm 33 R.2.2.2.1.2 ++ (prNm R.2.2.2.2 ++ [59])))))) = PB ++ prPc j R) → ∀ (H : Heap) (locs : List Loc) (ls : Array Slot), H.size = sz → vS G.1 cls lo s H locs (vU V [(pr, eO 2 [.ref bs, .int (nI P9.length)]), (bs, eI (gB G) 4880 fo)]) → lv_has ls 4 [(0, .ref pr), (1, .int (nI j)), (2, .ref pa)] → W pg l ev ({ frames := 5, cells := 0, slots := 0, locals := 120 } : Room) s mi args below meth cd H locs 0 0 (MQ below (vPost G lo (fun r V' k => r = none ∧ (∃ f1 : Nat → Int32, V' = vU V [(pr, eO 2 [.ref bs, .int (nI ((PB ++ prPc j R).length))]), (bs, eI (gB G) 4880 f1)] ∧ prOk f1 (PB ++ prPc j R)) ∧ k = sz)) args s 0 0 (vL lo)) (F0 mi 39 ls []) := by
    intro P9 fo  hO he H locs ls hz hV hl
    refine lv_aload_n hx hb d_Pr_putPiece_39 rfl (lv_at hl 0 rfl) ?_
    refine lv_bipush (v := 58) hx hb d_Pr_putPiece_40 (by decide) ?_
    refine lv_aload_n hx hb d_Pr_putPiece_42 rfl (lv_at hl 2 rfl) ?_
    refine v_get hx hb hts inPc hown hK.1 hV (pcAt_vU (cs := [(pr, eO 2 [.ref bs, .int (nI P9.length)]), (bs, eI (gB G) 4880 fo)]) hp hdc hdhp).1 rfl 3 (by decide) (hts _ w_fl_Pr_64) (fun _ h9 => h9) rfl d_Pr_putPiece_43 ?_
    refine v_call (va_runV (As := [.int 58, .int (nI R.2.1.1)]) (rest := []) ⟨hx, hb, hml, hown, hts⟩ (c_Pr_putWithNumber l G lo _ _ pr bs fo P9 hn hO 58 R.2.1.1 (by first | decide | omega) (by omega) (by have hl9 := congrArg List.length he; simp only [List.length_append, List.length_singleton] at hl9 ⊢; omega)) (kwV 2 hts w_co_Pr_putWithNumber rfl rfl w_it_Pr w_ml_Pr_48 w_im_Pr_putWithNumber w_se_Pr__Pr_putWithNumber (by decide +kernel) ⟨(Nat.le_of_ble_eq_true rfl), (Nat.le_of_ble_eq_true rfl)⟩) (u_preV hK hV hn [0, 1] rfl hz 0 rfl rfl) rfl rfl hl.1 rfl (lv_room (Nat.le_of_ble_eq_true rfl)) d_Pr_putPiece_46 ⟨(Nat.le_of_ble_eq_true rfl), (Nat.le_of_ble_eq_true rfl)⟩) hV (fun r9 V9 H locs hp hV hle => ?_)
    obtain ⟨rfl, ⟨g_14, rfl, hO_g_14⟩, hz⟩ := hp
    replace hV := u_back hV hn [0, 1] rfl
    have hV : vS G.1 cls lo s H locs (vU V [(pr, eO 2 [.ref bs, .int (nI ((P9 ++ pN 58 R.2.1.1).length))]), (bs, eI (gB G) 4880 g_14)]) := hV
    refine lv_aload_n hx hb d_Pr_putPiece_49 rfl (lv_at hl 0 rfl) ?_
    refine lv_aload_n hx hb d_Pr_putPiece_50 rfl (lv_at hl 2 rfl) ?_
    refine v_get hx hb hts inPc hown hK.1 hV (pcAt_vU (cs := [(pr, eO 2 [.ref bs, .int (nI ((P9 ++ pN 58 R.2.1.1).length))]), (bs, eI (gB G) 4880 g_14)]) hp hdc hdhp).1 rfl 4 (by decide) (hts _ w_fl_Pr_65) (fun _ h9 => h9) rfl d_Pr_putPiece_51 ?_
    refine v_call (va_runS (As := [.int (nI R.2.1.2.1)]) (rest := [.ref pr]) ⟨hx, hb, hml, hown, hts⟩ (c_Pr_signOf l G lo _ _ R.2.1.2.1 (by omega)) (kwS 1 hts w_co_Pr_signOf rfl rfl w_it_Pr w_ml_Pr_68 w_st_Pr_signOf (by decide +kernel) ⟨(Nat.le_of_ble_eq_true rfl), (Nat.le_of_ble_eq_true rfl)⟩) (v_preS hK hV rfl hz) rfl rfl hl.1 rfl (lv_room (Nat.le_of_ble_eq_true rfl)) d_Pr_putPiece_54 ⟨(Nat.le_of_ble_eq_true rfl), (Nat.le_of_ble_eq_true rfl)⟩) hV (fun r9 V9 H locs hp hV hle => ?_)
    obtain ⟨rfl, hv9, hz⟩ := hp
    rw [hv9] at hV
    have hV : vS G.1 cls lo s H locs (vU V [(pr, eO 2 [.ref bs, .int (nI ((P9 ++ pN 58 R.2.1.1).length))]), (bs, eI (gB G) 4880 g_14)]) := hV
    refine W.eq (g2 := F0 mi 57 ls [.int (nI (kindN R.2.1.2.1)), .ref pr]) rfl ?_
    have hk128 := kindN_128 R.2.1.2.1 (by omega)
    refine lv_aload_n hx hb d_Pr_putPiece_57 rfl (lv_at hl 2 rfl) ?_
    refine v_get hx hb hts inPc hown hK.1 hV (pcAt_vU (cs := [(pr, eO 2 [.ref bs, .int (nI ((P9 ++ pN 58 R.2.1.1).length))]), (bs, eI (gB G) 4880 g_14)]) hp hdc hdhp).1 rfl 5 (by decide) (hts _ w_fl_Pr_72) (fun _ h9 => h9) rfl d_Pr_putPiece_58 ?_
    refine v_call (va_runV (As := [.int (nI (kindN R.2.1.2.1)), .int (nI R.2.1.2.2)]) (rest := []) ⟨hx, hb, hml, hown, hts⟩ (c_Pr_putWithNumber l G lo _ _ pr bs g_14 (P9 ++ pN 58 R.2.1.1) hn hO_g_14 (kindN R.2.1.2.1) R.2.1.2.2 (by first | decide | omega) (by omega) (by have hl9 := congrArg List.length he; simp only [List.length_append, List.length_singleton] at hl9 ⊢; omega)) (kwV 2 hts w_co_Pr_putWithNumber rfl rfl w_it_Pr w_ml_Pr_48 w_im_Pr_putWithNumber w_se_Pr__Pr_putWithNumber (by decide +kernel) ⟨(Nat.le_of_ble_eq_true rfl), (Nat.le_of_ble_eq_true rfl)⟩) (u_preV hK hV hn [0, 1] rfl hz 0 rfl rfl) rfl rfl hl.1 rfl (lv_room (Nat.le_of_ble_eq_true rfl)) d_Pr_putPiece_61 ⟨(Nat.le_of_ble_eq_true rfl), (Nat.le_of_ble_eq_true rfl)⟩) hV (fun r9 V9 H locs hp hV hle => ?_)
    obtain ⟨rfl, ⟨g_15, rfl, hO_g_15⟩, hz⟩ := hp
    replace hV := u_back hV hn [0, 1] rfl
    have hV : vS G.1 cls lo s H locs (vU V [(pr, eO 2 [.ref bs, .int (nI ((P9 ++ pN 58 R.2.1.1 ++ pN (kindN R.2.1.2.1) R.2.1.2.2).length))]), (bs, eI (gB G) 4880 g_15)]) := hV
    refine lv_iconst (v := 0) hx hb d_Pr_putPiece_64 (by decide) ?_
    refine lv_istore_n (lv' := [(3, .int 0), (0, .ref pr), (1, .int (nI j)), (2, .ref pa)]) hx hb d_Pr_putPiece_65 rfl hl (by decide) rfl (fun ls hl => ?_)
    rw [show P9 ++ pN 58 R.2.1.1 ++ pN (kindN R.2.1.2.1) R.2.1.2.2 = P9 ++ pN 58 R.2.1.1 ++ pN (kindN R.2.1.2.1) R.2.1.2.2 ++ prH R.2.2.1 0 from (List.append_nil _).symm] at hV hO_g_15
    exact loop (R.2.2.1.length + 1) 0 (P9 ++ pN 58 R.2.1.1 ++ pN (kindN R.2.1.2.1) R.2.1.2.2) g_15 (by omega) hO_g_15 (by rw [← he]; simp only [List.append_assoc]) (by omega) H locs ls hz hV (lv_sub hl [1, 2, 3, 0] rfl)
  have he : PB ++ (pN 112 j ++ (pN 61 R.1.1 ++ (pN (if R.1.2.1 then 62 else 45) R.1.2.2 ++ (pN 58 R.2.1.1 ++ (pN (kindN R.2.1.2.1) R.2.1.2.2 ++ (prH R.2.2.1 R.2.2.1.length ++ (prLm 94 R.2.2.2.1.1 ++ (prLm 33 R.2.2.2.1.2 ++ (prNm R.2.2.2.2 ++ [59]))))))))) = PB ++ prPc j R := rfl
  refine lv_aload_n hx hb d_Pr_putPiece_0 rfl (lv_at hl 0 rfl) ?_
  refine lv_bipush (v := 112) hx hb d_Pr_putPiece_1 (by decide) ?_
  refine lv_iload_n hx hb d_Pr_putPiece_3 rfl (lv_at hl 1 rfl) ?_
  refine v_call (va_runV (As := [.int 112, .int (nI j)]) (rest := []) ⟨hx, hb, hml, hown, hts⟩ (c_Pr_putWithNumber l G lo _ _ pr bs fo PB hn hO 112 j (by first | decide | omega) (by omega) (by have hl9 := congrArg List.length he; simp only [List.length_append, List.length_singleton] at hl9 ⊢; omega)) (kwV 2 hts w_co_Pr_putWithNumber rfl rfl w_it_Pr w_ml_Pr_48 w_im_Pr_putWithNumber w_se_Pr__Pr_putWithNumber (by decide +kernel) ⟨(Nat.le_of_ble_eq_true rfl), (Nat.le_of_ble_eq_true rfl)⟩) (u_preV hK hV hn [0, 1] rfl hz 0 rfl rfl) rfl rfl hl.1 rfl (lv_room (Nat.le_of_ble_eq_true rfl)) d_Pr_putPiece_4 ⟨(Nat.le_of_ble_eq_true rfl), (Nat.le_of_ble_eq_true rfl)⟩) hV (fun r9 V9 H locs hp hV hle => ?_)
  obtain ⟨rfl, ⟨g_16, rfl, hO_g_16⟩, hz⟩ := hp
  replace hV := u_back hV hn [0, 1] rfl
  have hV : vS G.1 cls lo s H locs (vU V [(pr, eO 2 [.ref bs, .int (nI ((PB ++ pN 112 j).length))]), (bs, eI (gB G) 4880 g_16)]) := hV
  refine lv_aload_n hx hb d_Pr_putPiece_7 rfl (lv_at hl 0 rfl) ?_
  refine lv_bipush (v := 61) hx hb d_Pr_putPiece_8 (by decide) ?_
  refine lv_aload_n hx hb d_Pr_putPiece_10 rfl (lv_at hl 2 rfl) ?_
  refine v_get hx hb hts inPc hown hK.1 hV (pcAt_vU (cs := [(pr, eO 2 [.ref bs, .int (nI ((PB ++ pN 112 j).length))]), (bs, eI (gB G) 4880 g_16)]) hp hdc hdhp).1 rfl 0 (by decide) (hts _ w_fl_Pr_52) (fun _ h9 => h9) rfl d_Pr_putPiece_11 ?_
  refine v_call (va_runV (As := [.int 61, .int (nI R.1.1)]) (rest := []) ⟨hx, hb, hml, hown, hts⟩ (c_Pr_putWithNumber l G lo _ _ pr bs g_16 (PB ++ pN 112 j) hn hO_g_16 61 R.1.1 (by first | decide | omega) (by omega) (by have hl9 := congrArg List.length he; simp only [List.length_append, List.length_singleton] at hl9 ⊢; omega)) (kwV 2 hts w_co_Pr_putWithNumber rfl rfl w_it_Pr w_ml_Pr_48 w_im_Pr_putWithNumber w_se_Pr__Pr_putWithNumber (by decide +kernel) ⟨(Nat.le_of_ble_eq_true rfl), (Nat.le_of_ble_eq_true rfl)⟩) (u_preV hK hV hn [0, 1] rfl hz 0 rfl rfl) rfl rfl hl.1 rfl (lv_room (Nat.le_of_ble_eq_true rfl)) d_Pr_putPiece_14 ⟨(Nat.le_of_ble_eq_true rfl), (Nat.le_of_ble_eq_true rfl)⟩) hV (fun r9 V9 H locs hp hV hle => ?_)
  obtain ⟨rfl, ⟨g_17, rfl, hO_g_17⟩, hz⟩ := hp
  replace hV := u_back hV hn [0, 1] rfl
  have hV : vS G.1 cls lo s H locs (vU V [(pr, eO 2 [.ref bs, .int (nI ((PB ++ pN 112 j ++ pN 61 R.1.1).length))]), (bs, eI (gB G) 4880 g_17)]) := hV
  refine lv_aload_n hx hb d_Pr_putPiece_17 rfl (lv_at hl 0 rfl) ?_
  refine lv_aload_n hx hb d_Pr_putPiece_18 rfl (lv_at hl 2 rfl) ?_
  refine v_get hx hb hts inPc hown hK.1 hV (pcAt_vU (cs := [(pr, eO 2 [.ref bs, .int (nI ((PB ++ pN 112 j ++ pN 61 R.1.1).length))]), (bs, eI (gB G) 4880 g_17)]) hp hdc hdhp).1 rfl 2 (by decide) (hts _ w_fl_Pr_57) (fun _ h9 => h9) rfl d_Pr_putPiece_19 ?_
  refine lv_if_eq (tgt := 30) hx hb d_Pr_putPiece_22 (by decide) (fun c_18 => ?_) (fun c_18 => ?_)
  · rw [show (if R.1.2.1 = true then 62 else 45 : Nat) = 45 by rw [b2i_0 c_18]; rfl] at he
    refine lv_bipush (v := 45) hx hb d_Pr_putPiece_30 (by decide) ?_
    refine lv_aload_n hx hb d_Pr_putPiece_32 rfl (lv_at hl 2 rfl) ?_
    refine v_get hx hb hts inPc hown hK.1 hV (pcAt_vU (cs := [(pr, eO 2 [.ref bs, .int (nI ((PB ++ pN 112 j ++ pN 61 R.1.1).length))]), (bs, eI (gB G) 4880 g_17)]) hp hdc hdhp).1 rfl 1 (by decide) (hts _ w_fl_Pr_61) (fun _ h9 => h9) rfl d_Pr_putPiece_33 ?_
    refine v_call (va_runV (As := [.int 45, .int (nI R.1.2.2)]) (rest := []) ⟨hx, hb, hml, hown, hts⟩ (c_Pr_putWithNumber l G lo _ _ pr bs g_17 (PB ++ pN 112 j ++ pN 61 R.1.1) hn hO_g_17 45 R.1.2.2 (by first | decide | omega) (by omega) (by have hl9 := congrArg List.length he; simp only [List.length_append, List.length_singleton] at hl9 ⊢; omega)) (kwV 2 hts w_co_Pr_putWithNumber rfl rfl w_it_Pr w_ml_Pr_48 w_im_Pr_putWithNumber w_se_Pr__Pr_putWithNumber (by decide +kernel) ⟨(Nat.le_of_ble_eq_true rfl), (Nat.le_of_ble_eq_true rfl)⟩) (u_preV hK hV hn [0, 1] rfl hz 0 rfl rfl) rfl rfl hl.1 rfl (lv_room (Nat.le_of_ble_eq_true rfl)) d_Pr_putPiece_36 ⟨(Nat.le_of_ble_eq_true rfl), (Nat.le_of_ble_eq_true rfl)⟩) hV (fun r9 V9 H locs hp hV hle => ?_)
    obtain ⟨rfl, ⟨g_19, rfl, hO_g_19⟩, hz⟩ := hp
    replace hV := u_back hV hn [0, 1] rfl
    have hV : vS G.1 cls lo s H locs (vU V [(pr, eO 2 [.ref bs, .int (nI ((PB ++ pN 112 j ++ pN 61 R.1.1 ++ pN 45 R.1.2.2).length))]), (bs, eI (gB G) 4880 g_19)]) := hV
    exact b39 (PB ++ pN 112 j ++ pN 61 R.1.1 ++ pN 45 R.1.2.2) g_19 hO_g_19 (by rw [← he] <;> simp only [List.append_assoc]) H locs ls hz hV (lv_sub hl [0, 1, 2] rfl)
  · rw [show (if R.1.2.1 = true then 62 else 45 : Nat) = 62 by rw [b2i_1 c_18]; rfl] at he
    refine lv_bipush (v := 62) hx hb d_Pr_putPiece_25 (by decide) ?_
    refine lv_goto (tgt := 32) hx hb d_Pr_putPiece_27 (by decide) ?_
    refine lv_aload_n hx hb d_Pr_putPiece_32 rfl (lv_at hl 2 rfl) ?_
    refine v_get hx hb hts inPc hown hK.1 hV (pcAt_vU (cs := [(pr, eO 2 [.ref bs, .int (nI ((PB ++ pN 112 j ++ pN 61 R.1.1).length))]), (bs, eI (gB G) 4880 g_17)]) hp hdc hdhp).1 rfl 1 (by decide) (hts _ w_fl_Pr_61) (fun _ h9 => h9) rfl d_Pr_putPiece_33 ?_
    refine v_call (va_runV (As := [.int 62, .int (nI R.1.2.2)]) (rest := []) ⟨hx, hb, hml, hown, hts⟩ (c_Pr_putWithNumber l G lo _ _ pr bs g_17 (PB ++ pN 112 j ++ pN 61 R.1.1) hn hO_g_17 62 R.1.2.2 (by first | decide | omega) (by omega) (by have hl9 := congrArg List.length he; simp only [List.length_append, List.length_singleton] at hl9 ⊢; omega)) (kwV 2 hts w_co_Pr_putWithNumber rfl rfl w_it_Pr w_ml_Pr_48 w_im_Pr_putWithNumber w_se_Pr__Pr_putWithNumber (by decide +kernel) ⟨(Nat.le_of_ble_eq_true rfl), (Nat.le_of_ble_eq_true rfl)⟩) (u_preV hK hV hn [0, 1] rfl hz 0 rfl rfl) rfl rfl hl.1 rfl (lv_room (Nat.le_of_ble_eq_true rfl)) d_Pr_putPiece_36 ⟨(Nat.le_of_ble_eq_true rfl), (Nat.le_of_ble_eq_true rfl)⟩) hV (fun r9 V9 H locs hp hV hle => ?_)
    obtain ⟨rfl, ⟨g_20, rfl, hO_g_20⟩, hz⟩ := hp
    replace hV := u_back hV hn [0, 1] rfl
    have hV : vS G.1 cls lo s H locs (vU V [(pr, eO 2 [.ref bs, .int (nI ((PB ++ pN 112 j ++ pN 61 R.1.1 ++ pN 62 R.1.2.2).length))]), (bs, eI (gB G) 4880 g_20)]) := hV
    exact b39 (PB ++ pN 112 j ++ pN 61 R.1.1 ++ pN 62 R.1.2.2) g_20 hO_g_20 (by rw [← he] <;> simp only [List.append_assoc]) H locs ls hz hV (lv_sub hl [0, 1, 2] rfl)

set_option maxHeartbeats 4000000 in
set_option maxRecDepth 100000 in
/-- Printer.putTown -/
theorem c_Pr_putTown (l : Launch) (G : Gx) (lo : Nat) (V : Vw) (sz : Nat) (pr bs : Nat) (fo : Nat → Int32) (PB : List Nat) (tw ps bl b1 b2 sn s1 s2 tu af ao a3 : Nat) (fb fc fs fd fr ov tt : Nat → Int32) (L : List Tri) (of : Bool) (B S : Nat → Option (Nat × Nat)) (pf : Nat → Option Nat) (Q : Nat → Option PcR) (dy : Nat) (hn : [pr, bs, tw, ps, bl, b1, b2, sn, s1, s2, tu, af, ao, a3].Nodup) (hB : twB G V dy sz pf Q) (hdc : ∀ a ∈ [pr, bs, tw, ps, bl, b1, b2, sn, s1, s2, tu, af, ao, a3], a < dy) (hSb : spOk fb fc B) (hSs : spOk fs fd S) (hT : tnOk fr ov tt L) (hL : L.length ≤ 20) : Met l y_Pr_putTown ws_Pr_putTown ({ frames := 6, cells := 0, slots := 0, locals := 143 } : Room) (vPre G lo [.ref pr, .ref tw] (vU V [(pr, eO 2 [.ref bs, .int (nI PB.length)]), (bs, eI (gB G) 4880 fo), (tw, eO 5 [.ref ps, .ref bl, .ref sn, .ref tu]), (ps, eQ (gP G) 61 pf), (bl, eO 4 [.ref b1, .ref b2]), (b1, eI (gI G) 31 fb), (b2, eI (gI G) 31 fc), (sn, eO 4 [.ref s1, .ref s2]), (s1, eI (gI G) 31 fs), (s2, eI (gI G) 31 fd), (tu, eO 6 [.ref af, .ref ao, .ref a3, .int (nI L.length), .int (b2i of)]), (af, eI (gI G) 20 fr), (ao, eI (gI G) 20 ov), (a3, eI (gI G) 20 tt)]) sz) (vPost G lo (fun r V' k => r = none ∧ (∃ f1 : Nat → Int32, V' = vU V [(pr, eO 2 [.ref bs, .int (nI ((prA (Q, B, S, L)).length))]), (bs, eI (gB G) 4880 f1), (tw, eO 5 [.ref ps, .ref bl, .ref sn, .ref tu]), (ps, eQ (gP G) 61 pf), (bl, eO 4 [.ref b1, .ref b2]), (b1, eI (gI G) 31 fb), (b2, eI (gI G) 31 fc), (sn, eO 4 [.ref s1, .ref s2]), (s1, eI (gI G) 31 fs), (s2, eI (gI G) 31 fd), (tu, eO 6 [.ref af, .ref ao, .ref a3, .int (nI L.length), .int (b2i of)]), (af, eI (gI G) 20 fr), (ao, eI (gI G) 20 ov), (a3, eI (gI G) 20 tt)] ∧ prOk f1 (prA (Q, B, S, L))) ∧ k = sz)) 0 0 (vL lo) := by
  refine vMet (R := RPr) (by decide) rfl (Nat.le_of_ble_eq_true rfl) ?_
  intro pg ev s mi args below meth cd hx hb hr hml hlk hnm hts hown hK hz hV ls hl
  have hl : lv_has ls 4 [(0, .ref pr), (1, .ref tw)] := hl
  have hV0 := hV
  obtain ⟨H, hH⟩ : ∃ H, H = s.heap := ⟨_, rfl⟩
  obtain ⟨locs, hlocs⟩ : ∃ locs : List Loc, locs = [] := ⟨_, rfl⟩
  rw [← hH, ← hlocs]
  rw [← hH] at hz
  replace hV : vS G.1 cls lo s H locs (vU V [(pr, eO 2 [.ref bs, .int (nI PB.length)]), (bs, eI (gB G) 4880 fo), (tw, eO 5 [.ref ps, .ref bl, .ref sn, .ref tu]), (ps, eQ (gP G) 61 pf), (bl, eO 4 [.ref b1, .ref b2]), (b1, eI (gI G) 31 fb), (b2, eI (gI G) 31 fc), (sn, eO 4 [.ref s1, .ref s2]), (s1, eI (gI G) 31 fs), (s2, eI (gI G) 31 fd), (tu, eO 6 [.ref af, .ref ao, .ref a3, .int (nI L.length), .int (b2i of)]), (af, eI (gI G) 20 fr), (ao, eI (gI G) 20 ov), (a3, eI (gI G) 20 tt)]) := by rw [hH, hlocs]; exact hV
  clear hH hlocs hV0
  refine lv_aload_n hx hb d_Pr_putTown_0 rfl (lv_at hl 0 rfl) ?_
  refine lv_iconst (v := 0) hx hb d_Pr_putTown_1 (by decide) ?_
  refine u_put hx hb hts inPr tyPr tyPr_ok nmPr hown hK hV hn 0 rfl rfl 1 (by decide) w_fl_Pr_15 rfl rfl rfl rfl (Nat.le_of_ble_eq_true rfl) d_Pr_putTown_2 (fun H locs hV hz9 => ?_)
  have hV : vS G.1 cls lo s H locs (vU V [(pr, eO 2 [.ref bs, .int 0]), (bs, eI (gB G) 4880 fo), (tw, eO 5 [.ref ps, .ref bl, .ref sn, .ref tu]), (ps, eQ (gP G) 61 pf), (bl, eO 4 [.ref b1, .ref b2]), (b1, eI (gI G) 31 fb), (b2, eI (gI G) 31 fc), (sn, eO 4 [.ref s1, .ref s2]), (s1, eI (gI G) 31 fs), (s2, eI (gI G) 31 fd), (tu, eO 6 [.ref af, .ref ao, .ref a3, .int (nI L.length), .int (b2i of)]), (af, eI (gI G) 20 fr), (ao, eI (gI G) 20 ov), (a3, eI (gI G) 20 tt)]) := hV
  replace hz := hz9.trans hz
  refine lv_iconst (v := 1) hx hb d_Pr_putTown_5 (by decide) ?_
  refine lv_istore_n (lv' := [(2, .int 1), (0, .ref pr), (1, .ref tw)]) hx hb d_Pr_putTown_6 rfl hl (by decide) rfl (fun ls hl => ?_)
  have loop : ∀ (k : Nat) (i : Nat) (fo : Nat → Int32), 60 - i < k → (i ≤ 60) → (prOk fo (prPs Q i)) → ∀ (H : Heap) (locs : List Loc) (ls : Array Slot), H.size = sz → vS G.1 cls lo s H locs (vU V [(pr, eO 2 [.ref bs, .int (nI ((prPs Q i).length))]), (bs, eI (gB G) 4880 fo), (tw, eO 5 [.ref ps, .ref bl, .ref sn, .ref tu]), (ps, eQ (gP G) 61 pf), (bl, eO 4 [.ref b1, .ref b2]), (b1, eI (gI G) 31 fb), (b2, eI (gI G) 31 fc), (sn, eO 4 [.ref s1, .ref s2]), (s1, eI (gI G) 31 fs), (s2, eI (gI G) 31 fd), (tu, eO 6 [.ref af, .ref ao, .ref a3, .int (nI L.length), .int (b2i of)]), (af, eI (gI G) 20 fr), (ao, eI (gI G) 20 ov), (a3, eI (gI G) 20 tt)]) → lv_has ls 4 [(0, .ref pr), (1, .ref tw), (2, .int (nI (i + 1)))] → W pg l ev ({ frames := 6, cells := 0, slots := 0, locals := 143 } : Room) s mi args below meth cd H locs 0 0 (MQ below (vPost G lo (fun r V' k => r = none ∧ (∃ f1 : Nat → Int32, V' = vU V [(pr, eO 2 [.ref bs, .int (nI ((prA (Q, B, S, L)).length))]), (bs, eI (gB G) 4880 f1), (tw, eO 5 [.ref ps, .ref bl, .ref sn, .ref tu]), (ps, eQ (gP G) 61 pf), (bl, eO 4 [.ref b1, .ref b2]), (b1, eI (gI G) 31 fb), (b2, eI (gI G) 31 fc), (sn, eO 4 [.ref s1, .ref s2]), (s1, eI (gI G) 31 fs), (s2, eI (gI G) 31 fd), (tu, eO 6 [.ref af, .ref ao, .ref a3, .int (nI L.length), .int (b2i of)]), (af, eI (gI G) 20 fr), (ao, eI (gI G) 20 ov), (a3, eI (gI G) 20 tt)] ∧ prOk f1 (prA (Q, B, S, L))) ∧ k = sz)) args s 0 0 (vL lo)) (F0 mi 7 ls []) := by
    intro k
    induction k with
    | zero => intro i fo hk; exact absurd hk (by omega)
    | succ k ih =>
      intro i fo hk hi hO H locs ls hz hV hl
      refine lv_iload_n hx hb d_Pr_putTown_7 rfl (lv_at hl 2 rfl) ?_
      refine lv_bipush (v := 60) hx hb d_Pr_putTown_8 (by decide) ?_
      refine lv_icmp_gt (tgt := 35) hx hb d_Pr_putTown_10 (by decide) (fun c_1 => ?_) (fun c_1 => ?_)
      · replace c_1 : 60 < i + 1 := (nI_ltI (a := 60) (b := i + 1) (by omega) (by omega)).mp c_1
        have e60 : i = 60 := by omega
        subst e60
        have t1 := prPs_le hB 60 (by omega)
        have t2 := prSp_le9 (c := 104) hSb 30 (by omega)
        have t3 := prSp_le9 (c := 115) hSs 30 (by omega)
        refine lv_aload_n hx hb d_Pr_putTown_35 rfl (lv_at hl 0 rfl) ?_
        refine lv_bipush (v := 104) hx hb d_Pr_putTown_36 (by decide) ?_
        refine lv_aload_n hx hb d_Pr_putTown_38 rfl (lv_at hl 1 rfl) ?_
        refine u_get hx hb hts inTw hown hK hV hn 2 rfl rfl 1 (by decide) w_fl_Pr_29 rfl rfl d_Pr_putTown_39 ?_
        refine v_call (va_runV (As := [.int 104, .ref bl]) (rest := []) ⟨hx, hb, hml, hown, hts⟩ (c_Pr_putSpots l G lo _ _ pr bs fo (prPs Q 60) bl b1 b2 fb fc B (nd_sub hn [0, 1, 4, 5, 6] (by decide) rfl) hO 104 (by decide) (by (try simp only [List.length_append]); omega) hSb) (kwV 2 hts w_co_Pr_putSpots rfl rfl w_it_Pr w_ml_Pr_33 w_im_Pr_putSpots w_se_Pr__Pr_putSpots (by decide +kernel) ⟨(Nat.le_of_ble_eq_true rfl), (Nat.le_of_ble_eq_true rfl)⟩) (u_preV hK hV hn [0, 1, 4, 5, 6] rfl hz 0 rfl rfl) rfl rfl hl.1 rfl (lv_room (Nat.le_of_ble_eq_true rfl)) d_Pr_putTown_42 ⟨(Nat.le_of_ble_eq_true rfl), (Nat.le_of_ble_eq_true rfl)⟩) hV (fun r9 V9 H locs hp hV hle => ?_)
        obtain ⟨rfl, ⟨g_2, rfl, hO_g_2⟩, hz⟩ := hp
        replace hV := u_back hV hn [0, 1, 4, 5, 6] rfl
        have hV : vS G.1 cls lo s H locs (vU V [(pr, eO 2 [.ref bs, .int (nI ((prPs Q 60 ++ prSp 104 B 30).length))]), (bs, eI (gB G) 4880 g_2), (tw, eO 5 [.ref ps, .ref bl, .ref sn, .ref tu]), (ps, eQ (gP G) 61 pf), (bl, eO 4 [.ref b1, .ref b2]), (b1, eI (gI G) 31 fb), (b2, eI (gI G) 31 fc), (sn, eO 4 [.ref s1, .ref s2]), (s1, eI (gI G) 31 fs), (s2, eI (gI G) 31 fd), (tu, eO 6 [.ref af, .ref ao, .ref a3, .int (nI L.length), .int (b2i of)]), (af, eI (gI G) 20 fr), (ao, eI (gI G) 20 ov), (a3, eI (gI G) 20 tt)]) := hV
        refine lv_aload_n hx hb d_Pr_putTown_45 rfl (lv_at hl 0 rfl) ?_
        refine lv_bipush (v := 115) hx hb d_Pr_putTown_46 (by decide) ?_
        refine lv_aload_n hx hb d_Pr_putTown_48 rfl (lv_at hl 1 rfl) ?_
        refine u_get hx hb hts inTw hown hK hV hn 2 rfl rfl 2 (by decide) w_fl_Pr_37 rfl rfl d_Pr_putTown_49 ?_
        refine v_call (va_runV (As := [.int 115, .ref sn]) (rest := []) ⟨hx, hb, hml, hown, hts⟩ (c_Pr_putSpots l G lo _ _ pr bs g_2 (prPs Q 60 ++ prSp 104 B 30) sn s1 s2 fs fd S (nd_sub hn [0, 1, 7, 8, 9] (by decide) rfl) hO_g_2 115 (by decide) (by (try simp only [List.length_append]); omega) hSs) (kwV 2 hts w_co_Pr_putSpots rfl rfl w_it_Pr w_ml_Pr_33 w_im_Pr_putSpots w_se_Pr__Pr_putSpots (by decide +kernel) ⟨(Nat.le_of_ble_eq_true rfl), (Nat.le_of_ble_eq_true rfl)⟩) (u_preV hK hV hn [0, 1, 7, 8, 9] rfl hz 0 rfl rfl) rfl rfl hl.1 rfl (lv_room (Nat.le_of_ble_eq_true rfl)) d_Pr_putTown_52 ⟨(Nat.le_of_ble_eq_true rfl), (Nat.le_of_ble_eq_true rfl)⟩) hV (fun r9 V9 H locs hp hV hle => ?_)
        obtain ⟨rfl, ⟨g_3, rfl, hO_g_3⟩, hz⟩ := hp
        replace hV := u_back hV hn [0, 1, 7, 8, 9] rfl
        have hV : vS G.1 cls lo s H locs (vU V [(pr, eO 2 [.ref bs, .int (nI ((prPs Q 60 ++ prSp 104 B 30 ++ prSp 115 S 30).length))]), (bs, eI (gB G) 4880 g_3), (tw, eO 5 [.ref ps, .ref bl, .ref sn, .ref tu]), (ps, eQ (gP G) 61 pf), (bl, eO 4 [.ref b1, .ref b2]), (b1, eI (gI G) 31 fb), (b2, eI (gI G) 31 fc), (sn, eO 4 [.ref s1, .ref s2]), (s1, eI (gI G) 31 fs), (s2, eI (gI G) 31 fd), (tu, eO 6 [.ref af, .ref ao, .ref a3, .int (nI L.length), .int (b2i of)]), (af, eI (gI G) 20 fr), (ao, eI (gI G) 20 ov), (a3, eI (gI G) 20 tt)]) := hV
        refine lv_aload_n hx hb d_Pr_putTown_55 rfl (lv_at hl 0 rfl) ?_
        refine lv_aload_n hx hb d_Pr_putTown_56 rfl (lv_at hl 1 rfl) ?_
        refine u_get hx hb hts inTw hown hK hV hn 2 rfl rfl 3 (by decide) w_fl_Pr_40 rfl rfl d_Pr_putTown_57 ?_
        refine v_call (va_runV (As := [.ref tu]) (rest := []) ⟨hx, hb, hml, hown, hts⟩ (c_Pr_putTurns l G lo _ _ pr bs g_3 (prPs Q 60 ++ prSp 104 B 30 ++ prSp 115 S 30) tu af ao a3 fr ov tt L of (nd_sub hn [0, 1, 10, 11, 12, 13] (by decide) rfl) hO_g_3 (by (try simp only [List.length_append]); omega) hT hL) (kwV 1 hts w_co_Pr_putTurns rfl rfl w_it_Pr w_ml_Pr_44 w_im_Pr_putTurns w_se_Pr__Pr_putTurns (by decide +kernel) ⟨(Nat.le_of_ble_eq_true rfl), (Nat.le_of_ble_eq_true rfl)⟩) (u_preV hK hV hn [0, 1, 10, 11, 12, 13] rfl hz 0 rfl rfl) rfl rfl hl.1 rfl (lv_room (Nat.le_of_ble_eq_true rfl)) d_Pr_putTown_60 ⟨(Nat.le_of_ble_eq_true rfl), (Nat.le_of_ble_eq_true rfl)⟩) hV (fun r9 V9 H locs hp hV hle => ?_)
        obtain ⟨rfl, ⟨g_4, rfl, hO_g_4⟩, hz⟩ := hp
        replace hV := u_back hV hn [0, 1, 10, 11, 12, 13] rfl
        have hV : vS G.1 cls lo s H locs (vU V [(pr, eO 2 [.ref bs, .int (nI ((prPs Q 60 ++ prSp 104 B 30 ++ prSp 115 S 30 ++ prTn L L.length).length))]), (bs, eI (gB G) 4880 g_4), (tw, eO 5 [.ref ps, .ref bl, .ref sn, .ref tu]), (ps, eQ (gP G) 61 pf), (bl, eO 4 [.ref b1, .ref b2]), (b1, eI (gI G) 31 fb), (b2, eI (gI G) 31 fc), (sn, eO 4 [.ref s1, .ref s2]), (s1, eI (gI G) 31 fs), (s2, eI (gI G) 31 fd), (tu, eO 6 [.ref af, .ref ao, .ref a3, .int (nI L.length), .int (b2i of)]), (af, eI (gI G) 20 fr), (ao, eI (gI G) 20 ov), (a3, eI (gI G) 20 tt)]) := hV
        rw [show prPs Q 60 ++ prSp 104 B 30 ++ prSp 115 S 30 ++ prTn L L.length = prA (Q, B, S, L) from rfl] at hV hO_g_4
        exact W.vret hx hb hr (v_end hV ⟨rfl, ⟨_, rfl, hO_g_4⟩, hz⟩) hV.2.1.2.2 d_Pr_putTown_63
      · replace c_1 : ¬ 60 < i + 1 := fun z9 => c_1 ((nI_ltI (a := 60) (b := i + 1) (by omega) (by omega)).mpr z9)
        refine lv_aload_n hx hb d_Pr_putTown_13 rfl (lv_at hl 1 rfl) ?_
        refine lv_iload_n hx hb d_Pr_putTown_14 rfl (lv_at hl 2 rfl) ?_
        refine v_call (va_runV (As := [.int (nI (i + 1))]) (rest := []) ⟨hx, hb, hml, hown, hts⟩ (c_Tw_find l G lo _ _ tw ps bl sn tu pf (nd_sub hn [2, 3] (by decide) rfl) (nI (i + 1))) (kwV 1 hts w_co_Tw_find rfl rfl w_it_Tw w_ml_Pr_19 w_im_Tw_find w_se_Tw__Tw_find (by decide +kernel) ⟨(Nat.le_of_ble_eq_true rfl), (Nat.le_of_ble_eq_true rfl)⟩) (u_preV hK hV hn [2, 3] rfl hz 2 rfl rfl) rfl rfl hl.1 rfl (lv_room (Nat.le_of_ble_eq_true rfl)) d_Pr_putTown_15 ⟨(Nat.le_of_ble_eq_true rfl), (Nat.le_of_ble_eq_true rfl)⟩) hV (fun r9 V9 H locs hp hV hle => ?_)
        obtain ⟨rfl, rfl, hz⟩ := hp
        replace hV := uu_same hV hn [2, 3] rfl
        have hV : vS G.1 cls lo s H locs (vU V [(pr, eO 2 [.ref bs, .int (nI ((prPs Q i).length))]), (bs, eI (gB G) 4880 fo), (tw, eO 5 [.ref ps, .ref bl, .ref sn, .ref tu]), (ps, eQ (gP G) 61 pf), (bl, eO 4 [.ref b1, .ref b2]), (b1, eI (gI G) 31 fb), (b2, eI (gI G) 31 fc), (sn, eO 4 [.ref s1, .ref s2]), (s1, eI (gI G) 31 fs), (s2, eI (gI G) 31 fd), (tu, eO 6 [.ref af, .ref ao, .ref a3, .int (nI L.length), .int (b2i of)]), (af, eI (gI G) 20 fr), (ao, eI (gI G) 20 ov), (a3, eI (gI G) 20 tt)]) := hV
        refine W.eq (g2 := F0 mi 18 ls [va_rf (twFind pf (nI (i + 1)))]) rfl ?_
        rw [twFind_in (pf := pf) (j := i + 1) (by omega) (by omega)]
        rcases o_5 : pf (i + 1) with _ | a_5
        · refine W.eq (g2 := F0 mi 18 ls [.null]) rfl ?_
          have hQ_R := hB.no (j := i + 1) (by omega) (by omega) o_5
          rw [← prPs_n hQ_R] at hV hO
          refine lv_astore_nN (lv' := [(3, .null), (0, .ref pr), (1, .ref tw), (2, .int (nI (i + 1)))]) hx hb d_Pr_putTown_18 rfl hl (by decide) rfl (fun ls hl => ?_)
          refine lv_aload_nN hx hb d_Pr_putTown_19 rfl (lv_at hl 0 rfl) ?_
          refine lv_ifnullN (tgt := 29) hx hb d_Pr_putTown_20 (by decide) ?_
          refine lv_iinc (v := nI (i + 2)) (lv' := [(2, .int (nI (i + 2))), (3, .null), (0, .ref pr), (1, .ref tw)]) hx hb d_Pr_putTown_29 hl (k := 3) rfl (nI_add (i + 1) 1) (by decide) rfl (fun ls hl => ?_)
          refine lv_goto (tgt := 7) hx hb d_Pr_putTown_32 (by decide) ?_
          exact ih (i + 1) fo (by omega) (by omega) hO H locs ls hz hV (lv_sub hl [2, 3, 0] rfl)
        · refine W.eq (g2 := F0 mi 18 ls [.ref a_5]) rfl ?_
          obtain ⟨R, hQ_R, hp, hdhp⟩ := hB.yes (j := i + 1) (by omega) (by omega) o_5
          have hl8 := prPs_le hB i (by omega)
          have hl9 := prPc_le hp.2.2 (j := i + 1) (by omega)
          refine lv_astore_n (lv' := [(3, .ref a_5), (0, .ref pr), (1, .ref tw), (2, .int (nI (i + 1)))]) hx hb d_Pr_putTown_18 rfl hl (by decide) rfl (fun ls hl => ?_)
          refine lv_aload_n hx hb d_Pr_putTown_19 rfl (lv_at hl 0 rfl) ?_
          refine lv_ifnull hx hb d_Pr_putTown_20 ?_
          refine lv_aload_n hx hb d_Pr_putTown_23 rfl (lv_at hl 1 rfl) ?_
          refine lv_iload_n hx hb d_Pr_putTown_24 rfl (lv_at hl 3 rfl) ?_
          refine lv_aload_n hx hb d_Pr_putTown_25 rfl (lv_at hl 0 rfl) ?_
          refine v_call (va_runV (As := [.int (nI (i + 1)), .ref a_5]) (rest := []) ⟨hx, hb, hml, hown, hts⟩ (c_Pr_putPiece l G lo _ _ pr bs fo (prPs Q i) a_5 dy R (nd_sub hn [0, 1] (by decide) rfl) hO (pcAt_vU (cs := [(pr, eO 2 [.ref bs, .int (nI ((prPs Q i).length))]), (bs, eI (gB G) 4880 fo), (tw, eO 5 [.ref ps, .ref bl, .ref sn, .ref tu]), (ps, eQ (gP G) 61 pf), (bl, eO 4 [.ref b1, .ref b2]), (b1, eI (gI G) 31 fb), (b2, eI (gI G) 31 fc), (sn, eO 4 [.ref s1, .ref s2]), (s1, eI (gI G) 31 fs), (s2, eI (gI G) 31 fd), (tu, eO 6 [.ref af, .ref ao, .ref a3, .int (nI L.length), .int (b2i of)]), (af, eI (gI G) 20 fr), (ao, eI (gI G) 20 ov), (a3, eI (gI G) 20 tt)]) hp hdc hdhp) (cn_sub hdc [0, 1] rfl) hdhp (i + 1) (by omega) (by omega) (by omega)) (kwV 2 hts w_co_Pr_putPiece rfl rfl w_it_Pr w_ml_Pr_25 w_im_Pr_putPiece w_se_Pr__Pr_putPiece (by decide +kernel) ⟨(Nat.le_of_ble_eq_true rfl), (Nat.le_of_ble_eq_true rfl)⟩) (u_preV hK hV hn [0, 1] rfl hz 0 rfl rfl) rfl rfl hl.1 rfl (lv_room (Nat.le_of_ble_eq_true rfl)) d_Pr_putTown_26 ⟨(Nat.le_of_ble_eq_true rfl), (Nat.le_of_ble_eq_true rfl)⟩) hV (fun r9 V9 H locs hp hV hle => ?_)
          obtain ⟨rfl, ⟨g_6, rfl, hO_g_6⟩, hz⟩ := hp
          replace hV := u_back hV hn [0, 1] rfl
          have hV : vS G.1 cls lo s H locs (vU V [(pr, eO 2 [.ref bs, .int (nI ((prPs Q i ++ prPc (i + 1) R).length))]), (bs, eI (gB G) 4880 g_6), (tw, eO 5 [.ref ps, .ref bl, .ref sn, .ref tu]), (ps, eQ (gP G) 61 pf), (bl, eO 4 [.ref b1, .ref b2]), (b1, eI (gI G) 31 fb), (b2, eI (gI G) 31 fc), (sn, eO 4 [.ref s1, .ref s2]), (s1, eI (gI G) 31 fs), (s2, eI (gI G) 31 fd), (tu, eO 6 [.ref af, .ref ao, .ref a3, .int (nI L.length), .int (b2i of)]), (af, eI (gI G) 20 fr), (ao, eI (gI G) 20 ov), (a3, eI (gI G) 20 tt)]) := hV
          rw [← prPs_s hQ_R] at hV hO_g_6
          have hV : vS G.1 cls lo s H locs (vU V [(pr, eO 2 [.ref bs, .int (nI ((prPs Q (i + 1)).length))]), (bs, eI (gB G) 4880 g_6), (tw, eO 5 [.ref ps, .ref bl, .ref sn, .ref tu]), (ps, eQ (gP G) 61 pf), (bl, eO 4 [.ref b1, .ref b2]), (b1, eI (gI G) 31 fb), (b2, eI (gI G) 31 fc), (sn, eO 4 [.ref s1, .ref s2]), (s1, eI (gI G) 31 fs), (s2, eI (gI G) 31 fd), (tu, eO 6 [.ref af, .ref ao, .ref a3, .int (nI L.length), .int (b2i of)]), (af, eI (gI G) 20 fr), (ao, eI (gI G) 20 ov), (a3, eI (gI G) 20 tt)]) := hV
          refine lv_iinc (v := nI (i + 2)) (lv' := [(2, .int (nI (i + 2))), (3, .ref a_5), (0, .ref pr), (1, .ref tw)]) hx hb d_Pr_putTown_29 hl (k := 3) rfl (nI_add (i + 1) 1) (by decide) rfl (fun ls hl => ?_)
          refine lv_goto (tgt := 7) hx hb d_Pr_putTown_32 (by decide) ?_
          exact ih (i + 1) g_6 (by omega) (by omega) hO_g_6 H locs ls hz hV (lv_sub hl [2, 3, 0] rfl)
  rw [show (0 : Int32) = nI (prPs Q 0).length from rfl] at hV
  exact loop 61 0 fo (by omega) (by omega) (prOk_nil fo) H locs ls hz hV (lv_sub hl [1, 2, 0] rfl)
