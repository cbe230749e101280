/-! The loop. -/
theorem law_le {L i : Nat} (hL : L ≤ 256) (hi : i ≤ L) (h : ¬ Int32.ofNat L - 4 < nI i) : i + 4 ≤ L := by
  have h1 : nI i ≤ Int32.ofNat L - 4 := Int32.not_lt.mp h
  rw [Int32.le_iff_toInt_le, nI_toInt (by omega)] at h1
  have h2 : (Int32.ofNat L - 4).toInt = (L : Int) - 4 := by
    have e : ∀ n : Nat, n ≤ 256 → (Int32.ofNat n - 4).toInt = (n : Int) - 4 := by decide +kernel
    exact e L hL
  omega
set_option maxRecDepth 100000 in
set_option maxHeartbeats 8000000 in
theorem law_head {p : Program} {l : Launch} {e : Env} {s : State} {m : MethodId} {below : List Frame} {meth : Method} {c : Code} {b L : Nat} {xs : Nat → Int32} {dC : Nat → ClassId} {dI : Nat → Nat → Nat} {cI cS : ClassId} (C0 : ENV p s m meth c b L xs dC dI cI cS) (hL : L ≤ 256) {i : Nat} (hi : i ≤ L) (nx : i + 4 ≤ L → AT p l e s m below meth c b dC dI cI cS 831 i) : AT p l e s m below meth c b dC dI cI cS 18 i := by
  intro N PU HU QU TU xu uu PK HK QK TK xk uk r_text r_letters r_reader_numbers r_reader_place r_hall_desks r_hall_kind r_hall_leanTold r_hall_needs r_hall_firstHears r_hall_group r_hall_firstPitch r_hall_oboe r_hall_slip r_hall_warmth r_hall_unheard r_toldHall_desks r_toldHall_kind r_toldHall_leanTold r_toldHall_needs r_toldHall_firstHears r_toldHall_group r_toldHall_firstPitch r_toldHall_oboe r_toldHall_slip r_toldHall_warmth r_toldHall_unheard r_now_pitch r_now_hears r_now_oboe r_now_seconds r_togetherSets r_togetherSums r_togetherCount r_tuner_ahead_pitch r_tuner_ahead_hears r_tuner_ahead_oboe r_tuner_ahead_seconds r_tuner_drawSeed r_tuner_drawn r_trial_pitch r_trial_hears r_trial_oboe r_trial_seconds r_trialTuner_ahead_pitch r_trialTuner_ahead_hears r_trialTuner_ahead_oboe r_trialTuner_ahead_seconds r_trialTuner_straightDesk r_trialTuner_draws r_trialTuner_drawSeed r_trialTuner_drawn m_w m_d m_text m_texted m_at m_numbers m_then m_leans m_draws m_drawn m_heards m_heardSet m_heardSum a_r a_r_text a_r_reader a_r_reader_numbers a_r_hall a_r_hall_kind a_r_hall_leanTold a_r_hall_needs a_r_hall_firstHears a_r_hall_group a_r_hall_firstPitch a_r_toldHall a_r_toldHall_kind a_r_toldHall_leanTold a_r_toldHall_needs a_r_toldHall_firstHears a_r_toldHall_group a_r_toldHall_firstPitch a_r_now a_r_now_pitch a_r_now_hears a_r_undone a_r_undone_places a_r_undone_places_p0 a_r_undone_places_p0_pitch a_r_undone_places_p0_hears a_r_undone_places_p1 a_r_undone_places_p1_pitch a_r_undone_places_p1_hears a_r_undone_places_p2 a_r_undone_places_p2_pitch a_r_undone_places_p2_hears a_r_undone_places_p3 a_r_undone_places_p3_pitch a_r_undone_places_p3_hears a_r_undone_places_p4 a_r_undone_places_p4_pitch a_r_undone_places_p4_hears a_r_undone_places_p5 a_r_undone_places_p5_pitch a_r_undone_places_p5_hears a_r_undone_places_p6 a_r_undone_places_p6_pitch a_r_undone_places_p6_hears a_r_undone_places_p7 a_r_undone_places_p7_pitch a_r_undone_places_p7_hears a_r_kept a_r_kept_places a_r_kept_places_p0 a_r_kept_places_p0_pitch a_r_kept_places_p0_hears a_r_kept_places_p1 a_r_kept_places_p1_pitch a_r_kept_places_p1_hears a_r_togetherSets a_r_togetherSums a_r_tuner a_r_tuner_ahead a_r_tuner_ahead_pitch a_r_tuner_ahead_hears a_r_trial a_r_trial_pitch a_r_trial_hears a_r_trialTuner a_r_trialTuner_ahead a_r_trialTuner_ahead_pitch a_r_trialTuner_ahead_hears a_m a_m_w a_m_d a_m_text a_m_numbers a_m_then a_m_leans a_m_heardSet a_m_heardSum r_undone_places r_kept_places R hq_r_undone_places_0 hq_r_undone_places_1 hq_r_undone_places_2 hq_r_undone_places_3 hq_r_undone_places_4 hq_r_undone_places_5 hq_r_undone_places_6 hq_r_undone_places_7 hq_r_kept_places_0 hq_r_kept_places_1 H locs hP hD hS ls hl
  have C1 := C0
  obtain ⟨⟨hx, hb, hr, hml, hown0, hts0, hX, hbl, hlocks, hgv⟩, hN, hK⟩ := C0
  have hb : c.code = cL_law := hb
  have hown : s.vm.findClass RL = some m.cls := hown0
  have hts : ∀ w ∈ wsL_law, w.before #[Value.ref b] s = true := fun w h => hts0 w (wsL_law_in w h)
  have hA : ∀ q : Nat, s.heap.size ≤ q → (LA s) q := fun _ h => h
  have hbA : ¬ (LA s) b := Nat.not_le.mpr hbl
  refine lv_iload_n hx hb dL_law_18 rfl (lv_at hl 3 rfl) ?_
  refine lv_aload_n hx hb dL_law_19 rfl (lv_at hl 0 rfl) ?_
  refine va_slen hx hb hX hbl hbA hS dL_law_20 ?_
  refine lv_iconst (v := (4 : Int32)) hx hb dL_law_21 (by decide) ?_
  refine lv_isub hx hb dL_law_22 ?_
  refine lv_icmp_gt (tgt := 837) hx hb dL_law_23 (by decide) (fun c9 => ?_) (fun c9 => ?_)
  · refine lv_iconst (v := 1) hx hb dL_law_837 (by decide) ?_
    refine va_forget (fun q hq => hS.2.2 q hq) ?_
    refine W.widen (k := 600000) (n := 7302250) (Nat.le_of_ble_eq_true rfl) (Nat.le_of_ble_eq_true rfl) ?_
    exact lw_ret hx hb hr hlocks dL_law_838
  have h4 : i + 4 ≤ L := law_le hL hi c9
  have nx := nx h4
  have hs_0 : vp_in (nI i) L := vp_in_nI (by omega) (by omega)
  have hs_1 : vp_in (nI i + (1 : Int32)) L := by
    rw [show nI i + (1 : Int32) = nI (i + 1) from nI_add i 1]
    exact vp_in_nI (by omega) (by omega)
  have hs_2 : vp_in (nI i + (2 : Int32)) L := by
    rw [show nI i + (2 : Int32) = nI (i + 2) from nI_add i 2]
    exact vp_in_nI (by omega) (by omega)
  have hs_3 : vp_in (nI i + (3 : Int32)) L := by
    rw [show nI i + (3 : Int32) = nI (i + 3) from nI_add i 3]
    exact vp_in_nI (by omega) (by omega)
  refine lv_aload_n hx hb dL_law_26 rfl (lv_at hl 0 rfl) ?_
  refine lv_iload_n hx hb dL_law_27 rfl (lv_at hl 3 rfl) ?_
  refine va_sld hx hb hX hbl hbA hS hs_0 dL_law_28 ?_
  refine lv_bipush (v := (31 : Int32)) hx hb dL_law_29 (by decide) ?_
  refine lv_iand hx hb dL_law_31 ?_
  generalize hv : xs (nI i).toNatClampNeg &&& (31 : Int32) = v
  by_cases e_0 : v = (0 : Int32)
  · refine lv_tableIn (off := 132) (tgt := 164) hx hb dL_law_32 (by rw [e_0]; decide) (by rw [e_0]; decide) (by rw [e_0]; rfl) (by decide) ?_
    exact (s_write C1 hs_1 hs_2 hs_3 nx).go R hq_r_undone_places_0 hq_r_undone_places_1 hq_r_undone_places_2 hq_r_undone_places_3 hq_r_undone_places_4 hq_r_undone_places_5 hq_r_undone_places_6 hq_r_undone_places_7 hq_r_kept_places_0 hq_r_kept_places_1 hP hD hS hl
  by_cases e_1 : v = (1 : Int32)
  · refine lv_tableIn (off := 155) (tgt := 187) hx hb dL_law_32 (by rw [e_1]; decide) (by rw [e_1]; decide) (by rw [e_1]; rfl) (by decide) ?_
    exact (s_wipe C1 hs_1 hs_2 hs_3 nx).go R hq_r_undone_places_0 hq_r_undone_places_1 hq_r_undone_places_2 hq_r_undone_places_3 hq_r_undone_places_4 hq_r_undone_places_5 hq_r_undone_places_6 hq_r_undone_places_7 hq_r_kept_places_0 hq_r_kept_places_1 hP hD hS hl
  by_cases e_2 : v = (2 : Int32)
  · refine lv_tableIn (off := 168) (tgt := 200) hx hb dL_law_32 (by rw [e_2]; decide) (by rw [e_2]; decide) (by rw [e_2]; rfl) (by decide) ?_
    exact (s_fault C1 hs_1 hs_2 hs_3 nx).go R hq_r_undone_places_0 hq_r_undone_places_1 hq_r_undone_places_2 hq_r_undone_places_3 hq_r_undone_places_4 hq_r_undone_places_5 hq_r_undone_places_6 hq_r_undone_places_7 hq_r_kept_places_0 hq_r_kept_places_1 hP hD hS hl
  by_cases e_3 : v = (3 : Int32)
  · refine lv_tableIn (off := 181) (tgt := 213) hx hb dL_law_32 (by rw [e_3]; decide) (by rw [e_3]; decide) (by rw [e_3]; rfl) (by decide) ?_
    exact (s_lay C1 hs_1 hs_2 hs_3 nx).go R hq_r_undone_places_0 hq_r_undone_places_1 hq_r_undone_places_2 hq_r_undone_places_3 hq_r_undone_places_4 hq_r_undone_places_5 hq_r_undone_places_6 hq_r_undone_places_7 hq_r_kept_places_0 hq_r_kept_places_1 hP hD hS hl
  by_cases e_4 : v = (4 : Int32)
  · refine lv_tableIn (off := 194) (tgt := 226) hx hb dL_law_32 (by rw [e_4]; decide) (by rw [e_4]; decide) (by rw [e_4]; rfl) (by decide) ?_
    exact (s_desk C1 hs_1 hs_2 hs_3 nx).go R hq_r_undone_places_0 hq_r_undone_places_1 hq_r_undone_places_2 hq_r_undone_places_3 hq_r_undone_places_4 hq_r_undone_places_5 hq_r_undone_places_6 hq_r_undone_places_7 hq_r_kept_places_0 hq_r_kept_places_1 hP hD hS hl
  by_cases e_5 : v = (5 : Int32)
  · refine lv_tableIn (off := 227) (tgt := 259) hx hb dL_law_32 (by rw [e_5]; decide) (by rw [e_5]; decide) (by rw [e_5]; rfl) (by decide) ?_
    exact (s_off C1 hs_1 hs_2 hs_3 nx).go R hq_r_undone_places_0 hq_r_undone_places_1 hq_r_undone_places_2 hq_r_undone_places_3 hq_r_undone_places_4 hq_r_undone_places_5 hq_r_undone_places_6 hq_r_undone_places_7 hq_r_kept_places_0 hq_r_kept_places_1 hP hD hS hl
  by_cases e_6 : v = (6 : Int32)
  · refine lv_tableIn (off := 250) (tgt := 282) hx hb dL_law_32 (by rw [e_6]; decide) (by rw [e_6]; decide) (by rw [e_6]; rfl) (by decide) ?_
    exact (s_tune C1 hs_1 hs_2 hs_3 nx).go R hq_r_undone_places_0 hq_r_undone_places_1 hq_r_undone_places_2 hq_r_undone_places_3 hq_r_undone_places_4 hq_r_undone_places_5 hq_r_undone_places_6 hq_r_undone_places_7 hq_r_kept_places_0 hq_r_kept_places_1 hP hD hS hl
  by_cases e_7 : v = (7 : Int32)
  · refine lv_tableIn (off := 273) (tgt := 305) hx hb dL_law_32 (by rw [e_7]; decide) (by rw [e_7]; decide) (by rw [e_7]; rfl) (by decide) ?_
    exact (s_minutes C1 hs_1 hs_2 hs_3 nx).go R hq_r_undone_places_0 hq_r_undone_places_1 hq_r_undone_places_2 hq_r_undone_places_3 hq_r_undone_places_4 hq_r_undone_places_5 hq_r_undone_places_6 hq_r_undone_places_7 hq_r_kept_places_0 hq_r_kept_places_1 hP hD hS hl
  by_cases e_8 : v = (8 : Int32)
  · refine lv_tableIn (off := 296) (tgt := 328) hx hb dL_law_32 (by rw [e_8]; decide) (by rw [e_8]; decide) (by rw [e_8]; rfl) (by decide) ?_
    exact (s_hear C1 hs_1 hs_2 hs_3 nx).go R hq_r_undone_places_0 hq_r_undone_places_1 hq_r_undone_places_2 hq_r_undone_places_3 hq_r_undone_places_4 hq_r_undone_places_5 hq_r_undone_places_6 hq_r_undone_places_7 hq_r_kept_places_0 hq_r_kept_places_1 hP hD hS hl
  by_cases e_9 : v = (9 : Int32)
  · refine lv_tableIn (off := 329) (tgt := 361) hx hb dL_law_32 (by rw [e_9]; decide) (by rw [e_9]; decide) (by rw [e_9]; rfl) (by decide) ?_
    exact (s_undo C1 hs_1 hs_2 hs_3 nx).go R hq_r_undone_places_0 hq_r_undone_places_1 hq_r_undone_places_2 hq_r_undone_places_3 hq_r_undone_places_4 hq_r_undone_places_5 hq_r_undone_places_6 hq_r_undone_places_7 hq_r_kept_places_0 hq_r_kept_places_1 hP hD hS hl
  by_cases e_10 : v = (10 : Int32)
  · refine lv_tableIn (off := 342) (tgt := 374) hx hb dL_law_32 (by rw [e_10]; decide) (by rw [e_10]; decide) (by rw [e_10]; rfl) (by decide) ?_
    exact (s_spread C1 hs_1 hs_2 hs_3 nx).go R hq_r_undone_places_0 hq_r_undone_places_1 hq_r_undone_places_2 hq_r_undone_places_3 hq_r_undone_places_4 hq_r_undone_places_5 hq_r_undone_places_6 hq_r_undone_places_7 hq_r_kept_places_0 hq_r_kept_places_1 hP hD hS hl
  by_cases e_11 : v = (11 : Int32)
  · refine lv_tableIn (off := 355) (tgt := 387) hx hb dL_law_32 (by rw [e_11]; decide) (by rw [e_11]; decide) (by rw [e_11]; rfl) (by decide) ?_
    exact (s_heard C1 hs_1 hs_2 hs_3 nx).go R hq_r_undone_places_0 hq_r_undone_places_1 hq_r_undone_places_2 hq_r_undone_places_3 hq_r_undone_places_4 hq_r_undone_places_5 hq_r_undone_places_6 hq_r_undone_places_7 hq_r_kept_places_0 hq_r_kept_places_1 hP hD hS hl
  by_cases e_12 : v = (12 : Int32)
  · refine lv_tableIn (off := 368) (tgt := 400) hx hb dL_law_32 (by rw [e_12]; decide) (by rw [e_12]; decide) (by rw [e_12]; rfl) (by decide) ?_
    exact (s_mean C1 hs_1 hs_2 hs_3 nx).go R hq_r_undone_places_0 hq_r_undone_places_1 hq_r_undone_places_2 hq_r_undone_places_3 hq_r_undone_places_4 hq_r_undone_places_5 hq_r_undone_places_6 hq_r_undone_places_7 hq_r_kept_places_0 hq_r_kept_places_1 hP hD hS hl
  by_cases e_13 : v = (13 : Int32)
  · refine lv_tableIn (off := 391) (tgt := 423) hx hb dL_law_32 (by rw [e_13]; decide) (by rw [e_13]; decide) (by rw [e_13]; rfl) (by decide) ?_
    exact (s_round C1 hs_1 hs_2 hs_3 nx).go R hq_r_undone_places_0 hq_r_undone_places_1 hq_r_undone_places_2 hq_r_undone_places_3 hq_r_undone_places_4 hq_r_undone_places_5 hq_r_undone_places_6 hq_r_undone_places_7 hq_r_kept_places_0 hq_r_kept_places_1 hP hD hS hl
  by_cases e_14 : v = (14 : Int32)
  · refine lv_tableIn (off := 414) (tgt := 446) hx hb dL_law_32 (by rw [e_14]; decide) (by rw [e_14]; decide) (by rw [e_14]; rfl) (by decide) ?_
    exact (s_halves C1 hs_1 hs_2 hs_3 nx).go R hq_r_undone_places_0 hq_r_undone_places_1 hq_r_undone_places_2 hq_r_undone_places_3 hq_r_undone_places_4 hq_r_undone_places_5 hq_r_undone_places_6 hq_r_undone_places_7 hq_r_kept_places_0 hq_r_kept_places_1 hP hD hS hl
  by_cases e_15 : v = (15 : Int32)
  · refine lv_tableIn (off := 437) (tgt := 469) hx hb dL_law_32 (by rw [e_15]; decide) (by rw [e_15]; decide) (by rw [e_15]; rfl) (by decide) ?_
    exact (s_way C1 hs_1 hs_2 hs_3 nx).go R hq_r_undone_places_0 hq_r_undone_places_1 hq_r_undone_places_2 hq_r_undone_places_3 hq_r_undone_places_4 hq_r_undone_places_5 hq_r_undone_places_6 hq_r_undone_places_7 hq_r_kept_places_0 hq_r_kept_places_1 hP hD hS hl
  by_cases e_16 : v = (16 : Int32)
  · refine lv_tableIn (off := 470) (tgt := 502) hx hb dL_law_32 (by rw [e_16]; decide) (by rw [e_16]; decide) (by rw [e_16]; rfl) (by decide) ?_
    exact (s_ear C1 hs_1 hs_2 hs_3 nx).go R hq_r_undone_places_0 hq_r_undone_places_1 hq_r_undone_places_2 hq_r_undone_places_3 hq_r_undone_places_4 hq_r_undone_places_5 hq_r_undone_places_6 hq_r_undone_places_7 hq_r_kept_places_0 hq_r_kept_places_1 hP hD hS hl
  by_cases e_17 : v = (17 : Int32)
  · refine lv_tableIn (off := 503) (tgt := 535) hx hb dL_law_32 (by rw [e_17]; decide) (by rw [e_17]; decide) (by rw [e_17]; rfl) (by decide) ?_
    exact (s_again C1 hs_1 hs_2 hs_3 nx).go R hq_r_undone_places_0 hq_r_undone_places_1 hq_r_undone_places_2 hq_r_undone_places_3 hq_r_undone_places_4 hq_r_undone_places_5 hq_r_undone_places_6 hq_r_undone_places_7 hq_r_kept_places_0 hq_r_kept_places_1 hP hD hS hl
  by_cases e_18 : v = (18 : Int32)
  · refine lv_tableIn (off := 516) (tgt := 548) hx hb dL_law_32 (by rw [e_18]; decide) (by rw [e_18]; decide) (by rw [e_18]; rfl) (by decide) ?_
    exact (s_needles C1 hs_1 hs_2 hs_3 nx).go R hq_r_undone_places_0 hq_r_undone_places_1 hq_r_undone_places_2 hq_r_undone_places_3 hq_r_undone_places_4 hq_r_undone_places_5 hq_r_undone_places_6 hq_r_undone_places_7 hq_r_kept_places_0 hq_r_kept_places_1 hP hD hS hl
  by_cases e_19 : v = (19 : Int32)
  · refine lv_tableIn (off := 549) (tgt := 581) hx hb dL_law_32 (by rw [e_19]; decide) (by rw [e_19]; decide) (by rw [e_19]; rfl) (by decide) ?_
    exact (s_blame C1 hs_1 hs_2 hs_3 nx).go R hq_r_undone_places_0 hq_r_undone_places_1 hq_r_undone_places_2 hq_r_undone_places_3 hq_r_undone_places_4 hq_r_undone_places_5 hq_r_undone_places_6 hq_r_undone_places_7 hq_r_kept_places_0 hq_r_kept_places_1 hP hD hS hl
  by_cases e_20 : v = (20 : Int32)
  · refine lv_tableIn (off := 572) (tgt := 604) hx hb dL_law_32 (by rw [e_20]; decide) (by rw [e_20]; decide) (by rw [e_20]; rfl) (by decide) ?_
    exact (s_fifths C1 hs_1 hs_2 hs_3 nx).go R hq_r_undone_places_0 hq_r_undone_places_1 hq_r_undone_places_2 hq_r_undone_places_3 hq_r_undone_places_4 hq_r_undone_places_5 hq_r_undone_places_6 hq_r_undone_places_7 hq_r_kept_places_0 hq_r_kept_places_1 hP hD hS hl
  by_cases e_21 : v = (21 : Int32)
  · refine lv_tableIn (off := 615) (tgt := 647) hx hb dL_law_32 (by rw [e_21]; decide) (by rw [e_21]; decide) (by rw [e_21]; rfl) (by decide) ?_
    exact (s_together C1 hs_1 hs_2 hs_3 nx).go R hq_r_undone_places_0 hq_r_undone_places_1 hq_r_undone_places_2 hq_r_undone_places_3 hq_r_undone_places_4 hq_r_undone_places_5 hq_r_undone_places_6 hq_r_undone_places_7 hq_r_kept_places_0 hq_r_kept_places_1 hP hD hS hl
  by_cases e_22 : v = (22 : Int32)
  · refine lv_tableIn (off := 648) (tgt := 680) hx hb dL_law_32 (by rw [e_22]; decide) (by rw [e_22]; decide) (by rw [e_22]; rfl) (by decide) ?_
    exact (s_forget C1 hs_1 hs_2 hs_3 nx).go R hq_r_undone_places_0 hq_r_undone_places_1 hq_r_undone_places_2 hq_r_undone_places_3 hq_r_undone_places_4 hq_r_undone_places_5 hq_r_undone_places_6 hq_r_undone_places_7 hq_r_kept_places_0 hq_r_kept_places_1 hP hD hS hl
  by_cases e_23 : v = (23 : Int32)
  · refine lv_tableIn (off := 661) (tgt := 693) hx hb dL_law_32 (by rw [e_23]; decide) (by rw [e_23]; decide) (by rw [e_23]; rfl) (by decide) ?_
    exact (s_high C1 hs_1 hs_2 hs_3 nx).go R hq_r_undone_places_0 hq_r_undone_places_1 hq_r_undone_places_2 hq_r_undone_places_3 hq_r_undone_places_4 hq_r_undone_places_5 hq_r_undone_places_6 hq_r_undone_places_7 hq_r_kept_places_0 hq_r_kept_places_1 hP hD hS hl
  by_cases e_24 : v = (24 : Int32)
  · refine lv_tableIn (off := 684) (tgt := 716) hx hb dL_law_32 (by rw [e_24]; decide) (by rw [e_24]; decide) (by rw [e_24]; rfl) (by decide) ?_
    exact (s_odds C1 hs_1 hs_2 hs_3 nx).go R hq_r_undone_places_0 hq_r_undone_places_1 hq_r_undone_places_2 hq_r_undone_places_3 hq_r_undone_places_4 hq_r_undone_places_5 hq_r_undone_places_6 hq_r_undone_places_7 hq_r_kept_places_0 hq_r_kept_places_1 hP hD hS hl
  by_cases e_25 : v = (25 : Int32)
  · refine lv_tableIn (off := 717) (tgt := 749) hx hb dL_law_32 (by rw [e_25]; decide) (by rw [e_25]; decide) (by rw [e_25]; rfl) (by decide) ?_
    exact (s_evening C1 hs_1 hs_2 hs_3 nx).go R hq_r_undone_places_0 hq_r_undone_places_1 hq_r_undone_places_2 hq_r_undone_places_3 hq_r_undone_places_4 hq_r_undone_places_5 hq_r_undone_places_6 hq_r_undone_places_7 hq_r_kept_places_0 hq_r_kept_places_1 hP hD hS hl
  by_cases e_26 : v = (26 : Int32)
  · refine lv_tableIn (off := 750) (tgt := 782) hx hb dL_law_32 (by rw [e_26]; decide) (by rw [e_26]; decide) (by rw [e_26]; rfl) (by decide) ?_
    exact (s_keep C1 hs_1 hs_2 hs_3 nx).go R hq_r_undone_places_0 hq_r_undone_places_1 hq_r_undone_places_2 hq_r_undone_places_3 hq_r_undone_places_4 hq_r_undone_places_5 hq_r_undone_places_6 hq_r_undone_places_7 hq_r_kept_places_0 hq_r_kept_places_1 hP hD hS hl
  by_cases e_27 : v = (27 : Int32)
  · refine lv_tableIn (off := 763) (tgt := 795) hx hb dL_law_32 (by rw [e_27]; decide) (by rw [e_27]; decide) (by rw [e_27]; rfl) (by decide) ?_
    exact (s_back C1 hs_1 hs_2 hs_3 nx).go R hq_r_undone_places_0 hq_r_undone_places_1 hq_r_undone_places_2 hq_r_undone_places_3 hq_r_undone_places_4 hq_r_undone_places_5 hq_r_undone_places_6 hq_r_undone_places_7 hq_r_kept_places_0 hq_r_kept_places_1 hP hD hS hl
  by_cases e_28 : v = (28 : Int32)
  · refine lv_tableIn (off := 776) (tgt := 808) hx hb dL_law_32 (by rw [e_28]; decide) (by rw [e_28]; decide) (by rw [e_28]; rfl) (by decide) ?_
    exact (s_count C1 hs_1 hs_2 hs_3 nx).go R hq_r_undone_places_0 hq_r_undone_places_1 hq_r_undone_places_2 hq_r_undone_places_3 hq_r_undone_places_4 hq_r_undone_places_5 hq_r_undone_places_6 hq_r_undone_places_7 hq_r_kept_places_0 hq_r_kept_places_1 hP hD hS hl
  refine k_tableD (tgt := 831) hx hb dL_law_32 [0, 1, 2, 3, 4, 5, 6, 7, 8, 9, 10, 11, 12, 13, 14, 15, 16, 17, 18, 19, 20, 21, 22, 23, 24, 25, 26, 27, 28] (by decide +kernel) (by decide +kernel) (by simp only [List.mem_cons, List.not_mem_nil, or_false, not_or]; exact ⟨lv_neT e_0 (by decide), lv_neT e_1 (by decide), lv_neT e_2 (by decide), lv_neT e_3 (by decide), lv_neT e_4 (by decide), lv_neT e_5 (by decide), lv_neT e_6 (by decide), lv_neT e_7 (by decide), lv_neT e_8 (by decide), lv_neT e_9 (by decide), lv_neT e_10 (by decide), lv_neT e_11 (by decide), lv_neT e_12 (by decide), lv_neT e_13 (by decide), lv_neT e_14 (by decide), lv_neT e_15 (by decide), lv_neT e_16 (by decide), lv_neT e_17 (by decide), lv_neT e_18 (by decide), lv_neT e_19 (by decide), lv_neT e_20 (by decide), lv_neT e_21 (by decide), lv_neT e_22 (by decide), lv_neT e_23 (by decide), lv_neT e_24 (by decide), lv_neT e_25 (by decide), lv_neT e_26 (by decide), lv_neT e_27 (by decide), lv_neT e_28 (by decide)⟩) (by decide) ?_
  exact nx.go R hq_r_undone_places_0 hq_r_undone_places_1 hq_r_undone_places_2 hq_r_undone_places_3 hq_r_undone_places_4 hq_r_undone_places_5 hq_r_undone_places_6 hq_r_undone_places_7 hq_r_kept_places_0 hq_r_kept_places_1 hP hD hS hl
theorem law_loop {p : Program} {l : Launch} {e : Env} {s : State} {m : MethodId} {below : List Frame} {meth : Method} {c : Code} {b L : Nat} {xs : Nat → Int32} {dC : Nat → ClassId} {dI : Nat → Nat → Nat} {cI cS : ClassId} (C0 : ENV p s m meth c b L xs dC dI cI cS) (hL : L ≤ 256) : ∀ (k i : Nat), i ≤ L → L < i + k → AT p l e s m below meth c b dC dI cI cS 18 i := by
  intro k
  induction k with
  | zero =>
    intro i h1 h2
    exact absurd h2 (by omega)
  | succ k ih =>
    intro i h1 h2
    exact law_head C0 hL h1 (fun h4 => law_next C0 (ih (i + 4) h4 (by omega)))
