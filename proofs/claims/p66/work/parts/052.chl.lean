/-! the methods that are called are checked -/
set_option maxRecDepth 1000000 in
theorem qa_co0 : ∀ e ∈ qa_ca0, qa_Ok e.2.1 := by
  unfold qa_ca0
  exact (fun _ h => nomatch h)
set_option maxRecDepth 1000000 in
theorem qa_co1 : ∀ e ∈ qa_ca1, qa_Ok e.2.1 := by
  unfold qa_ca1
  exact List.forall_mem_cons.mpr ⟨qa_oX6_init, List.forall_mem_cons.mpr ⟨qa_oX3_init, List.forall_mem_cons.mpr ⟨qa_oX7_init, List.forall_mem_cons.mpr ⟨qa_oX2_init, List.forall_mem_cons.mpr ⟨qa_oX4_init, List.forall_mem_cons.mpr ⟨qa_oX0_init, List.forall_mem_cons.mpr ⟨qa_oX6_copyFrom, List.forall_mem_cons.mpr ⟨qa_oX3_copyFrom, List.forall_mem_cons.mpr ⟨qa_oX7_copyFrom, List.forall_mem_cons.mpr ⟨qa_oX2_copyFrom, List.forall_mem_cons.mpr ⟨qa_oX4_copyFrom, List.forall_mem_cons.mpr ⟨qa_oX0_copyFrom, List.forall_mem_cons.mpr ⟨qa_oX6_isReady, List.forall_mem_cons.mpr ⟨qa_oX2_queuePlace, List.forall_mem_cons.mpr ⟨qa_oX7_bears, List.forall_mem_cons.mpr ⟨qa_oX1_passTick, List.forall_mem_cons.mpr ⟨qa_oX1_mayGoOn, List.forall_mem_cons.mpr ⟨qa_oX1_proceed, List.forall_mem_cons.mpr ⟨qa_oX1_beginLoading, List.forall_mem_cons.mpr ⟨qa_oX1_mayBurn, List.forall_mem_cons.mpr ⟨qa_oX1_putOnFire, List.forall_mem_cons.mpr ⟨qa_oX3_advance, List.forall_mem_cons.mpr ⟨qa_oX1_bringOn, List.forall_mem_cons.mpr ⟨qa_oX2_unqueue, List.forall_mem_cons.mpr ⟨qa_oX9_at, List.forall_mem_cons.mpr ⟨qa_oX7_bring, List.forall_mem_cons.mpr ⟨qa_oX6_use, List.forall_mem_cons.mpr ⟨qa_oX6_coolEmbers, List.forall_mem_cons.mpr ⟨qa_oX7_fadeOnce, List.forall_mem_cons.mpr ⟨qa_oX7_countShown, List.forall_mem_cons.mpr ⟨qa_oX1_loadOnce, List.forall_mem_cons.mpr ⟨qa_oX1_paceIsReached, List.forall_mem_cons.mpr ⟨qa_oX6_setReady, List.forall_mem_cons.mpr ⟨qa_oX1_nextToLoad, List.forall_mem_cons.mpr ⟨qa_oX1_burnDownTo, List.forall_mem_cons.mpr ⟨qa_oX6_ticksToLoad, List.forall_mem_cons.mpr ⟨qa_oX9_set, List.forall_mem_cons.mpr ⟨qa_oX1_nextInGoodTime, List.forall_mem_cons.mpr ⟨qa_oX3_slideAhead, List.forall_mem_cons.mpr ⟨qa_oX1_lineUp, List.forall_mem_cons.mpr ⟨qa_oX1_weighByNextUse, List.forall_mem_cons.mpr ⟨qa_oX1_weighByUseOrCost, (fun _ h => nomatch h)⟩⟩⟩⟩⟩⟩⟩⟩⟩⟩⟩⟩⟩⟩⟩⟩⟩⟩⟩⟩⟩⟩⟩⟩⟩⟩⟩⟩⟩⟩⟩⟩⟩⟩⟩⟩⟩⟩⟩⟩⟩⟩
set_option maxRecDepth 1000000 in
theorem qa_co2 : ∀ e ∈ qa_ca2, qa_Ok e.2.1 := by
  unfold qa_ca2
  exact List.forall_mem_cons.mpr ⟨qa_oX9_copyRow, List.forall_mem_cons.mpr ⟨qa_oX9_at, List.forall_mem_cons.mpr ⟨qa_oX9_set, (fun _ h => nomatch h)⟩⟩⟩
set_option maxRecDepth 1000000 in
theorem qa_co3 : ∀ e ∈ qa_ca3, qa_Ok e.2.1 := by
  unfold qa_ca3
  exact List.forall_mem_cons.mpr ⟨qa_oX9_copyRow, List.forall_mem_cons.mpr ⟨qa_oX9_at, List.forall_mem_cons.mpr ⟨qa_oX9_set, List.forall_mem_cons.mpr ⟨qa_oX3_slideAhead, (fun _ h => nomatch h)⟩⟩⟩⟩
set_option maxRecDepth 1000000 in
theorem qa_co4 : ∀ e ∈ qa_ca4, qa_Ok e.2.1 := by
  unfold qa_ca4
  exact (fun _ h => nomatch h)
set_option maxRecDepth 1000000 in
theorem qa_co5 : ∀ e ∈ qa_ca5, qa_Ok e.2.1 := by
  unfold qa_ca5
  exact List.forall_mem_cons.mpr ⟨qa_oX1_init, List.forall_mem_cons.mpr ⟨qa_oX1_copyFrom, (fun _ h => nomatch h)⟩⟩
set_option maxRecDepth 1000000 in
theorem qa_co6 : ∀ e ∈ qa_ca6, qa_Ok e.2.1 := by
  unfold qa_ca6
  exact List.forall_mem_cons.mpr ⟨qa_oX9_copyRow, List.forall_mem_cons.mpr ⟨qa_oX9_set, List.forall_mem_cons.mpr ⟨qa_oX9_at, (fun _ h => nomatch h)⟩⟩⟩
set_option maxRecDepth 1000000 in
theorem qa_co7 : ∀ e ∈ qa_ca7, qa_Ok e.2.1 := by
  unfold qa_ca7
  exact (fun _ h => nomatch h)
set_option maxRecDepth 1000000 in
theorem qa_co8 : ∀ e ∈ qa_ca8, qa_Ok e.2.1 := by
  unfold qa_ca8
  exact (fun _ h => nomatch h)
set_option maxRecDepth 1000000 in
theorem qa_co9 : ∀ e ∈ qa_ca9, qa_Ok e.2.1 := by
  unfold qa_ca9
  exact List.forall_mem_cons.mpr ⟨qa_oX1_init, List.forall_mem_cons.mpr ⟨qa_oX5_init, List.forall_mem_cons.mpr ⟨qa_oX8_init, List.forall_mem_cons.mpr ⟨qa_oX9_isWithin, List.forall_mem_cons.mpr ⟨qa_oX9_needArgument, List.forall_mem_cons.mpr ⟨qa_oX9_needState, List.forall_mem_cons.mpr ⟨qa_oX5_push, List.forall_mem_cons.mpr ⟨qa_oX6_add, List.forall_mem_cons.mpr ⟨qa_oX1_beginLoading, List.forall_mem_cons.mpr ⟨qa_oX6_has, List.forall_mem_cons.mpr ⟨qa_oX9_needIndex, List.forall_mem_cons.mpr ⟨qa_oX3_put, List.forall_mem_cons.mpr ⟨qa_oX3_has, List.forall_mem_cons.mpr ⟨qa_oX3_remove, List.forall_mem_cons.mpr ⟨qa_oX1_mayGoOn, List.forall_mem_cons.mpr ⟨qa_oX1_proceed, List.forall_mem_cons.mpr ⟨qa_oX1_mayAsk, List.forall_mem_cons.mpr ⟨qa_oX2_queue, List.forall_mem_cons.mpr ⟨qa_oX1_mayBurn, List.forall_mem_cons.mpr ⟨qa_oX1_putOnFire, List.forall_mem_cons.mpr ⟨qa_oX9_at, List.forall_mem_cons.mpr ⟨qa_oX1_passTicks, List.forall_mem_cons.mpr ⟨qa_oX1_burnDownTo, List.forall_mem_cons.mpr ⟨qa_oX1_copyFrom, List.forall_mem_cons.mpr ⟨qa_oX6_ticksToLoad, List.forall_mem_cons.mpr ⟨qa_oX6_isReady, List.forall_mem_cons.mpr ⟨qa_oX7_bears, List.forall_mem_cons.mpr ⟨qa_oX3_placesUntil, List.forall_mem_cons.mpr ⟨qa_oX1_placeInLine, List.forall_mem_cons.mpr ⟨qa_oX1_sumOfCosts, List.forall_mem_cons.mpr ⟨qa_oX9_waitOnTrial, List.forall_mem_cons.mpr ⟨qa_oX1_sumOfWait, List.forall_mem_cons.mpr ⟨qa_oX1_burningsToLoad, List.forall_mem_cons.mpr ⟨qa_oX9_missesOnTrial, List.forall_mem_cons.mpr ⟨qa_oX0_shareOfHits, List.forall_mem_cons.mpr ⟨qa_oX1_passTick, (fun _ h => nomatch h)⟩⟩⟩⟩⟩⟩⟩⟩⟩⟩⟩⟩⟩⟩⟩⟩⟩⟩⟩⟩⟩⟩⟩⟩⟩⟩⟩⟩⟩⟩⟩⟩⟩⟩⟩⟩
set_option maxRecDepth 1000000 in
theorem qa_co10 : ∀ e ∈ qa_ca10, qa_Ok e.2.1 := by
  unfold qa_ca10
  exact (fun _ h => nomatch h)
set_option maxRecDepth 1000000 in
theorem qa_co11 : ∀ e ∈ qa_ca11, qa_Ok e.2.1 := by
  unfold qa_ca11
  exact List.forall_mem_cons.mpr ⟨qa_oX9_awaited, List.forall_mem_cons.mpr ⟨qa_oX9_shown, List.forall_mem_cons.mpr ⟨qa_oX9_fading, List.forall_mem_cons.mpr ⟨qa_oX9_loading, List.forall_mem_cons.mpr ⟨qa_oX9_showPlace, List.forall_mem_cons.mpr ⟨qa_oX9_asked, List.forall_mem_cons.mpr ⟨qa_oX9_askedAt, List.forall_mem_cons.mpr ⟨qa_oX9_slides, List.forall_mem_cons.mpr ⟨qa_oL_low, List.forall_mem_cons.mpr ⟨qa_oX9_addSlide, List.forall_mem_cons.mpr ⟨qa_oX9_isLoaded, List.forall_mem_cons.mpr ⟨qa_oX9_places, List.forall_mem_cons.mpr ⟨qa_oL_isInserted, List.forall_mem_cons.mpr ⟨qa_oL_isTaken, List.forall_mem_cons.mpr ⟨qa_oL_told, List.forall_mem_cons.mpr ⟨qa_oL_isGone, List.forall_mem_cons.mpr ⟨qa_oL_isAsked, List.forall_mem_cons.mpr ⟨qa_oX9_ask, List.forall_mem_cons.mpr ⟨qa_oX9_isOnShow, List.forall_mem_cons.mpr ⟨qa_oL_isBurnt, List.forall_mem_cons.mpr ⟨qa_oX9_changeOrder, List.forall_mem_cons.mpr ⟨qa_oX9_order, List.forall_mem_cons.mpr ⟨qa_oX9_changeAhead, List.forall_mem_cons.mpr ⟨qa_oX9_changeGlow, List.forall_mem_cons.mpr ⟨qa_oX9_changePace, List.forall_mem_cons.mpr ⟨qa_oX9_changeMemory, List.forall_mem_cons.mpr ⟨qa_oL_isTicked, List.forall_mem_cons.mpr ⟨qa_oL_isAwaited, List.forall_mem_cons.mpr ⟨qa_oL_showPlace, List.forall_mem_cons.mpr ⟨qa_oX9_insert, List.forall_mem_cons.mpr ⟨qa_oX9_slideAt, List.forall_mem_cons.mpr ⟨qa_oX9_takeOut, List.forall_mem_cons.mpr ⟨qa_oX9_hits, List.forall_mem_cons.mpr ⟨qa_oX9_misses, List.forall_mem_cons.mpr ⟨qa_oX9_goOn, List.forall_mem_cons.mpr ⟨qa_oX9_shownFor, List.forall_mem_cons.mpr ⟨qa_oX9_fadeOf, List.forall_mem_cons.mpr ⟨qa_oX9_fadeLeft, List.forall_mem_cons.mpr ⟨qa_oX9_burntTimes, List.forall_mem_cons.mpr ⟨qa_oX9_burnings, List.forall_mem_cons.mpr ⟨qa_oX9_burn, List.forall_mem_cons.mpr ⟨qa_oX9_costOf, List.forall_mem_cons.mpr ⟨qa_oX9_glowOf, List.forall_mem_cons.mpr ⟨qa_oX9_glow, List.forall_mem_cons.mpr ⟨qa_oX9_time, List.forall_mem_cons.mpr ⟨qa_oX9_waited, List.forall_mem_cons.mpr ⟨qa_oX9_tick, List.forall_mem_cons.mpr ⟨qa_oX9_ticksToShowByTicks, List.forall_mem_cons.mpr ⟨qa_oX9_ticksToShowBySums, List.forall_mem_cons.mpr ⟨qa_oX9_loadOf, List.forall_mem_cons.mpr ⟨qa_oX9_burningsFor, List.forall_mem_cons.mpr ⟨qa_oX9_burnPlace, List.forall_mem_cons.mpr ⟨qa_oX9_takenBySlides, List.forall_mem_cons.mpr ⟨qa_oX9_takenByAccount, List.forall_mem_cons.mpr ⟨qa_oX9_memory, List.forall_mem_cons.mpr ⟨qa_oX9_loads, List.forall_mem_cons.mpr ⟨qa_oX9_warmLoads, List.forall_mem_cons.mpr ⟨qa_oX9_loadLeft, List.forall_mem_cons.mpr ⟨qa_oX9_nextUse, List.forall_mem_cons.mpr ⟨qa_oX9_hitShare, List.forall_mem_cons.mpr ⟨qa_oX9_bestOrder, List.forall_mem_cons.mpr ⟨qa_oX9_missesWith, List.forall_mem_cons.mpr ⟨qa_oX9_init, List.forall_mem_cons.mpr ⟨qa_oL_cell, List.forall_mem_cons.mpr ⟨qa_oL_does, List.forall_mem_cons.mpr ⟨qa_oL_isMemorySo, List.forall_mem_cons.mpr ⟨qa_oL_isAskedSo, List.forall_mem_cons.mpr ⟨qa_oL_isRoundSo, (fun _ h => nomatch h)⟩⟩⟩⟩⟩⟩⟩⟩⟩⟩⟩⟩⟩⟩⟩⟩⟩⟩⟩⟩⟩⟩⟩⟩⟩⟩⟩⟩⟩⟩⟩⟩⟩⟩⟩⟩⟩⟩⟩⟩⟩⟩⟩⟩⟩⟩⟩⟩⟩⟩⟩⟩⟩⟩⟩⟩⟩⟩⟩⟩⟩⟩⟩⟩⟩⟩⟩⟩
theorem qa_co (k : Nat) : ∀ e ∈ qa_ca k, qa_Ok e.2.1 := by
  unfold qa_ca
  split
  · exact qa_co0
  · exact qa_co1
  · exact qa_co2
  · exact qa_co3
  · exact qa_co4
  · exact qa_co5
  · exact qa_co6
  · exact qa_co7
  · exact qa_co8
  · exact qa_co9
  · exact qa_co10
  · exact qa_co11
