/-! the methods, checked one by one: each instruction, the words of its code and of its calls (written by wip/tools/mk_tab.py) -/
theorem qa_dX0_init : qa_de qa_mX0_init = true := by decide +kernel
theorem qa_oX0_init : qa_Ok qa_mX0_init := ⟨qa_dX0_init, by decide +kernel⟩
theorem qa_dX0_copyFrom : qa_de qa_mX0_copyFrom = true := by decide +kernel
theorem qa_oX0_copyFrom : qa_Ok qa_mX0_copyFrom := ⟨qa_dX0_copyFrom, by decide +kernel⟩
theorem qa_dX0_shareOfHits : qa_de qa_mX0_shareOfHits = true := by decide +kernel
theorem qa_oX0_shareOfHits : qa_Ok qa_mX0_shareOfHits := ⟨qa_dX0_shareOfHits, by decide +kernel⟩
theorem qa_dX1_init : qa_de qa_mX1_init = true := by decide +kernel
theorem qa_oX1_init : qa_Ok qa_mX1_init := ⟨qa_dX1_init, by decide +kernel⟩
theorem qa_dX1_copyFrom : qa_de qa_mX1_copyFrom = true := by decide +kernel
theorem qa_oX1_copyFrom : qa_Ok qa_mX1_copyFrom := ⟨qa_dX1_copyFrom, by decide +kernel⟩
theorem qa_dX1_mayGoOn : qa_de qa_mX1_mayGoOn = true := by decide +kernel
theorem qa_oX1_mayGoOn : qa_Ok qa_mX1_mayGoOn := ⟨qa_dX1_mayGoOn, by decide +kernel⟩
theorem qa_dX1_mayAsk : qa_de qa_mX1_mayAsk = true := by decide +kernel
theorem qa_oX1_mayAsk : qa_Ok qa_mX1_mayAsk := ⟨qa_dX1_mayAsk, by decide +kernel⟩
theorem qa_dX1_mayBurn : qa_de qa_mX1_mayBurn = true := by decide +kernel
theorem qa_oX1_mayBurn : qa_Ok qa_mX1_mayBurn := ⟨qa_dX1_mayBurn, by decide +kernel⟩
theorem qa_dX1_proceed : qa_de qa_mX1_proceed = true := by decide +kernel
theorem qa_oX1_proceed : qa_Ok qa_mX1_proceed := ⟨qa_dX1_proceed, by decide +kernel⟩
theorem qa_dX1_bringOn : qa_de qa_mX1_bringOn = true := by decide +kernel
theorem qa_oX1_bringOn : qa_Ok qa_mX1_bringOn := ⟨qa_dX1_bringOn, by decide +kernel⟩
theorem qa_dX1_passTicks : qa_de qa_mX1_passTicks = true := by decide +kernel
theorem qa_oX1_passTicks : qa_Ok qa_mX1_passTicks := ⟨qa_dX1_passTicks, by decide +kernel⟩
theorem qa_dX1_passTick : qa_de qa_mX1_passTick = true := by decide +kernel
theorem qa_oX1_passTick : qa_Ok qa_mX1_passTick := ⟨qa_dX1_passTick, by decide +kernel⟩
theorem qa_dX1_paceIsReached : qa_de qa_mX1_paceIsReached = true := by decide +kernel
theorem qa_oX1_paceIsReached : qa_Ok qa_mX1_paceIsReached := ⟨qa_dX1_paceIsReached, by decide +kernel⟩
theorem qa_dX1_loadOnce : qa_de qa_mX1_loadOnce = true := by decide +kernel
theorem qa_oX1_loadOnce : qa_Ok qa_mX1_loadOnce := ⟨qa_dX1_loadOnce, by decide +kernel⟩
theorem qa_dX1_beginLoading : qa_de qa_mX1_beginLoading = true := by decide +kernel
theorem qa_oX1_beginLoading : qa_Ok qa_mX1_beginLoading := ⟨qa_dX1_beginLoading, by decide +kernel⟩
theorem qa_dX1_nextToLoad : qa_de qa_mX1_nextToLoad = true := by decide +kernel
theorem qa_oX1_nextToLoad : qa_Ok qa_mX1_nextToLoad := ⟨qa_dX1_nextToLoad, by decide +kernel⟩
theorem qa_dX1_nextInGoodTime : qa_de qa_mX1_nextInGoodTime = true := by decide +kernel
theorem qa_oX1_nextInGoodTime : qa_Ok qa_mX1_nextInGoodTime := ⟨qa_dX1_nextInGoodTime, by decide +kernel⟩
theorem qa_dX1_putOnFire : qa_de qa_mX1_putOnFire = true := by decide +kernel
theorem qa_oX1_putOnFire : qa_Ok qa_mX1_putOnFire := ⟨qa_dX1_putOnFire, by decide +kernel⟩
theorem qa_dX1_burnDownTo : qa_de qa_mX1_burnDownTo = true := by decide +kernel
theorem qa_oX1_burnDownTo : qa_Ok qa_mX1_burnDownTo := ⟨qa_dX1_burnDownTo, by decide +kernel⟩
theorem qa_dX1_lineUp : qa_de qa_mX1_lineUp = true := by decide +kernel
theorem qa_oX1_lineUp : qa_Ok qa_mX1_lineUp := ⟨qa_dX1_lineUp, by decide +kernel⟩
theorem qa_dX1_weighByUseOrCost : qa_de qa_mX1_weighByUseOrCost = true := by decide +kernel
theorem qa_oX1_weighByUseOrCost : qa_Ok qa_mX1_weighByUseOrCost := ⟨qa_dX1_weighByUseOrCost, by decide +kernel⟩
theorem qa_dX1_weighByNextUse : qa_de qa_mX1_weighByNextUse = true := by decide +kernel
theorem qa_oX1_weighByNextUse : qa_Ok qa_mX1_weighByNextUse := ⟨qa_dX1_weighByNextUse, by decide +kernel⟩
theorem qa_dX1_placeInLine : qa_de qa_mX1_placeInLine = true := by decide +kernel
theorem qa_oX1_placeInLine : qa_Ok qa_mX1_placeInLine := ⟨qa_dX1_placeInLine, by decide +kernel⟩
theorem qa_dX1_burningsToLoad : qa_de qa_mX1_burningsToLoad = true := by decide +kernel
theorem qa_oX1_burningsToLoad : qa_Ok qa_mX1_burningsToLoad := ⟨qa_dX1_burningsToLoad, by decide +kernel⟩
theorem qa_dX1_sumOfCosts : qa_de qa_mX1_sumOfCosts = true := by decide +kernel
theorem qa_oX1_sumOfCosts : qa_Ok qa_mX1_sumOfCosts := ⟨qa_dX1_sumOfCosts, by decide +kernel⟩
theorem qa_dX1_sumOfWait : qa_de qa_mX1_sumOfWait = true := by decide +kernel
theorem qa_oX1_sumOfWait : qa_Ok qa_mX1_sumOfWait := ⟨qa_dX1_sumOfWait, by decide +kernel⟩
theorem qa_dX2_init : qa_de qa_mX2_init = true := by decide +kernel
theorem qa_oX2_init : qa_Ok qa_mX2_init := ⟨qa_dX2_init, by decide +kernel⟩
theorem qa_dX2_copyFrom : qa_de qa_mX2_copyFrom = true := by decide +kernel
theorem qa_oX2_copyFrom : qa_Ok qa_mX2_copyFrom := ⟨qa_dX2_copyFrom, by decide +kernel⟩
theorem qa_dX2_queuePlace : qa_de qa_mX2_queuePlace = true := by decide +kernel
theorem qa_oX2_queuePlace : qa_Ok qa_mX2_queuePlace := ⟨qa_dX2_queuePlace, by decide +kernel⟩
theorem qa_dX2_queue : qa_de qa_mX2_queue = true := by decide +kernel
theorem qa_oX2_queue : qa_Ok qa_mX2_queue := ⟨qa_dX2_queue, by decide +kernel⟩
theorem qa_dX2_unqueue : qa_de qa_mX2_unqueue = true := by decide +kernel
theorem qa_oX2_unqueue : qa_Ok qa_mX2_unqueue := ⟨qa_dX2_unqueue, by decide +kernel⟩
theorem qa_dX3_init : qa_de qa_mX3_init = true := by decide +kernel
theorem qa_oX3_init : qa_Ok qa_mX3_init := ⟨qa_dX3_init, by decide +kernel⟩
theorem qa_dX3_copyFrom : qa_de qa_mX3_copyFrom = true := by decide +kernel
theorem qa_oX3_copyFrom : qa_Ok qa_mX3_copyFrom := ⟨qa_dX3_copyFrom, by decide +kernel⟩
theorem qa_dX3_has : qa_de qa_mX3_has = true := by decide +kernel
theorem qa_oX3_has : qa_Ok qa_mX3_has := ⟨qa_dX3_has, by decide +kernel⟩
theorem qa_dX3_put : qa_de qa_mX3_put = true := by decide +kernel
theorem qa_oX3_put : qa_Ok qa_mX3_put := ⟨qa_dX3_put, by decide +kernel⟩
theorem qa_dX3_remove : qa_de qa_mX3_remove = true := by decide +kernel
theorem qa_oX3_remove : qa_Ok qa_mX3_remove := ⟨qa_dX3_remove, by decide +kernel⟩
theorem qa_dX3_advance : qa_de qa_mX3_advance = true := by decide +kernel
theorem qa_oX3_advance : qa_Ok qa_mX3_advance := ⟨qa_dX3_advance, by decide +kernel⟩
theorem qa_dX3_slideAhead : qa_de qa_mX3_slideAhead = true := by decide +kernel
theorem qa_oX3_slideAhead : qa_Ok qa_mX3_slideAhead := ⟨qa_dX3_slideAhead, by decide +kernel⟩
theorem qa_dX3_placesUntil : qa_de qa_mX3_placesUntil = true := by decide +kernel
theorem qa_oX3_placesUntil : qa_Ok qa_mX3_placesUntil := ⟨qa_dX3_placesUntil, by decide +kernel⟩
theorem qa_dX4_init : qa_de qa_mX4_init = true := by decide +kernel
theorem qa_oX4_init : qa_Ok qa_mX4_init := ⟨qa_dX4_init, by decide +kernel⟩
theorem qa_dX4_copyFrom : qa_de qa_mX4_copyFrom = true := by decide +kernel
theorem qa_oX4_copyFrom : qa_Ok qa_mX4_copyFrom := ⟨qa_dX4_copyFrom, by decide +kernel⟩
theorem qa_dX5_init : qa_de qa_mX5_init = true := by decide +kernel
theorem qa_oX5_init : qa_Ok qa_mX5_init := ⟨qa_dX5_init, by decide +kernel⟩
theorem qa_dX5_push : qa_de qa_mX5_push = true := by decide +kernel
theorem qa_oX5_push : qa_Ok qa_mX5_push := ⟨qa_dX5_push, by decide +kernel⟩
theorem qa_dX6_init : qa_de qa_mX6_init = true := by decide +kernel
theorem qa_oX6_init : qa_Ok qa_mX6_init := ⟨qa_dX6_init, by decide +kernel⟩
theorem qa_dX6_copyFrom : qa_de qa_mX6_copyFrom = true := by decide +kernel
theorem qa_oX6_copyFrom : qa_Ok qa_mX6_copyFrom := ⟨qa_dX6_copyFrom, by decide +kernel⟩
theorem qa_dX6_has : qa_de qa_mX6_has = true := by decide +kernel
theorem qa_oX6_has : qa_Ok qa_mX6_has := ⟨qa_dX6_has, by decide +kernel⟩
theorem qa_dX6_isReady : qa_de qa_mX6_isReady = true := by decide +kernel
theorem qa_oX6_isReady : qa_Ok qa_mX6_isReady := ⟨qa_dX6_isReady, by decide +kernel⟩
theorem qa_dX6_setReady : qa_de qa_mX6_setReady = true := by decide +kernel
theorem qa_oX6_setReady : qa_Ok qa_mX6_setReady := ⟨qa_dX6_setReady, by decide +kernel⟩
theorem qa_dX6_add : qa_de qa_mX6_add = true := by decide +kernel
theorem qa_oX6_add : qa_Ok qa_mX6_add := ⟨qa_dX6_add, by decide +kernel⟩
theorem qa_dX6_ticksToLoad : qa_de qa_mX6_ticksToLoad = true := by decide +kernel
theorem qa_oX6_ticksToLoad : qa_Ok qa_mX6_ticksToLoad := ⟨qa_dX6_ticksToLoad, by decide +kernel⟩
theorem qa_dX6_use : qa_de qa_mX6_use = true := by decide +kernel
theorem qa_oX6_use : qa_Ok qa_mX6_use := ⟨qa_dX6_use, by decide +kernel⟩
theorem qa_dX6_coolEmbers : qa_de qa_mX6_coolEmbers = true := by decide +kernel
theorem qa_oX6_coolEmbers : qa_Ok qa_mX6_coolEmbers := ⟨qa_dX6_coolEmbers, by decide +kernel⟩
theorem qa_dX7_init : qa_de qa_mX7_init = true := by decide +kernel
theorem qa_oX7_init : qa_Ok qa_mX7_init := ⟨qa_dX7_init, by decide +kernel⟩
theorem qa_dX7_copyFrom : qa_de qa_mX7_copyFrom = true := by decide +kernel
theorem qa_oX7_copyFrom : qa_Ok qa_mX7_copyFrom := ⟨qa_dX7_copyFrom, by decide +kernel⟩
theorem qa_dX7_bears : qa_de qa_mX7_bears = true := by decide +kernel
theorem qa_oX7_bears : qa_Ok qa_mX7_bears := ⟨qa_dX7_bears, by decide +kernel⟩
theorem qa_dX7_bring : qa_de qa_mX7_bring = true := by decide +kernel
theorem qa_oX7_bring : qa_Ok qa_mX7_bring := ⟨qa_dX7_bring, by decide +kernel⟩
theorem qa_dX7_fadeOnce : qa_de qa_mX7_fadeOnce = true := by decide +kernel
theorem qa_oX7_fadeOnce : qa_Ok qa_mX7_fadeOnce := ⟨qa_dX7_fadeOnce, by decide +kernel⟩
theorem qa_dX7_countShown : qa_de qa_mX7_countShown = true := by decide +kernel
theorem qa_oX7_countShown : qa_Ok qa_mX7_countShown := ⟨qa_dX7_countShown, by decide +kernel⟩
theorem qa_dX8_init : qa_de qa_mX8_init = true := by decide +kernel
theorem qa_oX8_init : qa_Ok qa_mX8_init := ⟨qa_dX8_init, by decide +kernel⟩
theorem qa_dX9_init : qa_de qa_mX9_init = true := by decide +kernel
theorem qa_oX9_init : qa_Ok qa_mX9_init := ⟨qa_dX9_init, by decide +kernel⟩
theorem qa_dX9_addSlide : qa_de qa_mX9_addSlide = true := by decide +kernel
theorem qa_oX9_addSlide : qa_Ok qa_mX9_addSlide := ⟨qa_dX9_addSlide, by decide +kernel⟩
theorem qa_dX9_insert : qa_de qa_mX9_insert = true := by decide +kernel
theorem qa_oX9_insert : qa_Ok qa_mX9_insert := ⟨qa_dX9_insert, by decide +kernel⟩
theorem qa_dX9_takeOut : qa_de qa_mX9_takeOut = true := by decide +kernel
theorem qa_oX9_takeOut : qa_Ok qa_mX9_takeOut := ⟨qa_dX9_takeOut, by decide +kernel⟩
theorem qa_dX9_goOn : qa_de qa_mX9_goOn = true := by decide +kernel
theorem qa_oX9_goOn : qa_Ok qa_mX9_goOn := ⟨qa_dX9_goOn, by decide +kernel⟩
theorem qa_dX9_ask : qa_de qa_mX9_ask = true := by decide +kernel
theorem qa_oX9_ask : qa_Ok qa_mX9_ask := ⟨qa_dX9_ask, by decide +kernel⟩
theorem qa_dX9_burn : qa_de qa_mX9_burn = true := by decide +kernel
theorem qa_oX9_burn : qa_Ok qa_mX9_burn := ⟨qa_dX9_burn, by decide +kernel⟩
theorem qa_dX9_tick : qa_de qa_mX9_tick = true := by decide +kernel
theorem qa_oX9_tick : qa_Ok qa_mX9_tick := ⟨qa_dX9_tick, by decide +kernel⟩
theorem qa_dX9_changeMemory : qa_de qa_mX9_changeMemory = true := by decide +kernel
theorem qa_oX9_changeMemory : qa_Ok qa_mX9_changeMemory := ⟨qa_dX9_changeMemory, by decide +kernel⟩
theorem qa_dX9_changeAhead : qa_de qa_mX9_changeAhead = true := by decide +kernel
theorem qa_oX9_changeAhead : qa_Ok qa_mX9_changeAhead := ⟨qa_dX9_changeAhead, by decide +kernel⟩
theorem qa_dX9_changeOrder : qa_de qa_mX9_changeOrder = true := by decide +kernel
theorem qa_oX9_changeOrder : qa_Ok qa_mX9_changeOrder := ⟨qa_dX9_changeOrder, by decide +kernel⟩
theorem qa_dX9_changeGlow : qa_de qa_mX9_changeGlow = true := by decide +kernel
theorem qa_oX9_changeGlow : qa_Ok qa_mX9_changeGlow := ⟨qa_dX9_changeGlow, by decide +kernel⟩
theorem qa_dX9_changePace : qa_de qa_mX9_changePace = true := by decide +kernel
theorem qa_oX9_changePace : qa_Ok qa_mX9_changePace := ⟨qa_dX9_changePace, by decide +kernel⟩
theorem qa_dX9_slides : qa_de qa_mX9_slides = true := by decide +kernel
theorem qa_oX9_slides : qa_Ok qa_mX9_slides := ⟨qa_dX9_slides, by decide +kernel⟩
theorem qa_dX9_costOf : qa_de qa_mX9_costOf = true := by decide +kernel
theorem qa_oX9_costOf : qa_Ok qa_mX9_costOf := ⟨qa_dX9_costOf, by decide +kernel⟩
theorem qa_dX9_loadOf : qa_de qa_mX9_loadOf = true := by decide +kernel
theorem qa_oX9_loadOf : qa_Ok qa_mX9_loadOf := ⟨qa_dX9_loadOf, by decide +kernel⟩
theorem qa_dX9_fadeOf : qa_de qa_mX9_fadeOf = true := by decide +kernel
theorem qa_oX9_fadeOf : qa_Ok qa_mX9_fadeOf := ⟨qa_dX9_fadeOf, by decide +kernel⟩
theorem qa_dX9_isLoaded : qa_de qa_mX9_isLoaded = true := by decide +kernel
theorem qa_oX9_isLoaded : qa_Ok qa_mX9_isLoaded := ⟨qa_dX9_isLoaded, by decide +kernel⟩
theorem qa_dX9_isOnShow : qa_de qa_mX9_isOnShow = true := by decide +kernel
theorem qa_oX9_isOnShow : qa_Ok qa_mX9_isOnShow := ⟨qa_dX9_isOnShow, by decide +kernel⟩
theorem qa_dX9_glowOf : qa_de qa_mX9_glowOf = true := by decide +kernel
theorem qa_oX9_glowOf : qa_Ok qa_mX9_glowOf := ⟨qa_dX9_glowOf, by decide +kernel⟩
theorem qa_dX9_burntTimes : qa_de qa_mX9_burntTimes = true := by decide +kernel
theorem qa_oX9_burntTimes : qa_Ok qa_mX9_burntTimes := ⟨qa_dX9_burntTimes, by decide +kernel⟩
theorem qa_dX9_nextUse : qa_de qa_mX9_nextUse = true := by decide +kernel
theorem qa_oX9_nextUse : qa_Ok qa_mX9_nextUse := ⟨qa_dX9_nextUse, by decide +kernel⟩
theorem qa_dX9_burnPlace : qa_de qa_mX9_burnPlace = true := by decide +kernel
theorem qa_oX9_burnPlace : qa_Ok qa_mX9_burnPlace := ⟨qa_dX9_burnPlace, by decide +kernel⟩
theorem qa_dX9_places : qa_de qa_mX9_places = true := by decide +kernel
theorem qa_oX9_places : qa_Ok qa_mX9_places := ⟨qa_dX9_places, by decide +kernel⟩
theorem qa_dX9_slideAt : qa_de qa_mX9_slideAt = true := by decide +kernel
theorem qa_oX9_slideAt : qa_Ok qa_mX9_slideAt := ⟨qa_dX9_slideAt, by decide +kernel⟩
theorem qa_dX9_showPlace : qa_de qa_mX9_showPlace = true := by decide +kernel
theorem qa_oX9_showPlace : qa_Ok qa_mX9_showPlace := ⟨qa_dX9_showPlace, by decide +kernel⟩
theorem qa_dX9_shown : qa_de qa_mX9_shown = true := by decide +kernel
theorem qa_oX9_shown : qa_Ok qa_mX9_shown := ⟨qa_dX9_shown, by decide +kernel⟩
theorem qa_dX9_fading : qa_de qa_mX9_fading = true := by decide +kernel
theorem qa_oX9_fading : qa_Ok qa_mX9_fading := ⟨qa_dX9_fading, by decide +kernel⟩
theorem qa_dX9_fadeLeft : qa_de qa_mX9_fadeLeft = true := by decide +kernel
theorem qa_oX9_fadeLeft : qa_Ok qa_mX9_fadeLeft := ⟨qa_dX9_fadeLeft, by decide +kernel⟩
theorem qa_dX9_awaited : qa_de qa_mX9_awaited = true := by decide +kernel
theorem qa_oX9_awaited : qa_Ok qa_mX9_awaited := ⟨qa_dX9_awaited, by decide +kernel⟩
theorem qa_dX9_shownFor : qa_de qa_mX9_shownFor = true := by decide +kernel
theorem qa_oX9_shownFor : qa_Ok qa_mX9_shownFor := ⟨qa_dX9_shownFor, by decide +kernel⟩
theorem qa_dX9_loading : qa_de qa_mX9_loading = true := by decide +kernel
theorem qa_oX9_loading : qa_Ok qa_mX9_loading := ⟨qa_dX9_loading, by decide +kernel⟩
theorem qa_dX9_loadLeft : qa_de qa_mX9_loadLeft = true := by decide +kernel
theorem qa_oX9_loadLeft : qa_Ok qa_mX9_loadLeft := ⟨qa_dX9_loadLeft, by decide +kernel⟩
theorem qa_dX9_asked : qa_de qa_mX9_asked = true := by decide +kernel
theorem qa_oX9_asked : qa_Ok qa_mX9_asked := ⟨qa_dX9_asked, by decide +kernel⟩
theorem qa_dX9_askedAt : qa_de qa_mX9_askedAt = true := by decide +kernel
theorem qa_oX9_askedAt : qa_Ok qa_mX9_askedAt := ⟨qa_dX9_askedAt, by decide +kernel⟩
theorem qa_dX9_takenBySlides : qa_de qa_mX9_takenBySlides = true := by decide +kernel
theorem qa_oX9_takenBySlides : qa_Ok qa_mX9_takenBySlides := ⟨qa_dX9_takenBySlides, by decide +kernel⟩
theorem qa_dX9_takenByAccount : qa_de qa_mX9_takenByAccount = true := by decide +kernel
theorem qa_oX9_takenByAccount : qa_Ok qa_mX9_takenByAccount := ⟨qa_dX9_takenByAccount, by decide +kernel⟩
theorem qa_dX9_memory : qa_de qa_mX9_memory = true := by decide +kernel
theorem qa_oX9_memory : qa_Ok qa_mX9_memory := ⟨qa_dX9_memory, by decide +kernel⟩
theorem qa_dX9_order : qa_de qa_mX9_order = true := by decide +kernel
theorem qa_oX9_order : qa_Ok qa_mX9_order := ⟨qa_dX9_order, by decide +kernel⟩
theorem qa_dX9_glow : qa_de qa_mX9_glow = true := by decide +kernel
theorem qa_oX9_glow : qa_Ok qa_mX9_glow := ⟨qa_dX9_glow, by decide +kernel⟩
theorem qa_dX9_ticksToShowByTicks : qa_de qa_mX9_ticksToShowByTicks = true := by decide +kernel
theorem qa_oX9_ticksToShowByTicks : qa_Ok qa_mX9_ticksToShowByTicks := ⟨qa_dX9_ticksToShowByTicks, by decide +kernel⟩
theorem qa_dX9_ticksToShowBySums : qa_de qa_mX9_ticksToShowBySums = true := by decide +kernel
theorem qa_oX9_ticksToShowBySums : qa_Ok qa_mX9_ticksToShowBySums := ⟨qa_dX9_ticksToShowBySums, by decide +kernel⟩
theorem qa_dX9_burningsFor : qa_de qa_mX9_burningsFor = true := by decide +kernel
theorem qa_oX9_burningsFor : qa_Ok qa_mX9_burningsFor := ⟨qa_dX9_burningsFor, by decide +kernel⟩
theorem qa_dX9_missesWith : qa_de qa_mX9_missesWith = true := by decide +kernel
theorem qa_oX9_missesWith : qa_Ok qa_mX9_missesWith := ⟨qa_dX9_missesWith, by decide +kernel⟩
theorem qa_dX9_bestOrder : qa_de qa_mX9_bestOrder = true := by decide +kernel
theorem qa_oX9_bestOrder : qa_Ok qa_mX9_bestOrder := ⟨qa_dX9_bestOrder, by decide +kernel⟩
theorem qa_dX9_time : qa_de qa_mX9_time = true := by decide +kernel
theorem qa_oX9_time : qa_Ok qa_mX9_time := ⟨qa_dX9_time, by decide +kernel⟩
theorem qa_dX9_hits : qa_de qa_mX9_hits = true := by decide +kernel
theorem qa_oX9_hits : qa_Ok qa_mX9_hits := ⟨qa_dX9_hits, by decide +kernel⟩
theorem qa_dX9_misses : qa_de qa_mX9_misses = true := by decide +kernel
theorem qa_oX9_misses : qa_Ok qa_mX9_misses := ⟨qa_dX9_misses, by decide +kernel⟩
theorem qa_dX9_loads : qa_de qa_mX9_loads = true := by decide +kernel
theorem qa_oX9_loads : qa_Ok qa_mX9_loads := ⟨qa_dX9_loads, by decide +kernel⟩
theorem qa_dX9_warmLoads : qa_de qa_mX9_warmLoads = true := by decide +kernel
theorem qa_oX9_warmLoads : qa_Ok qa_mX9_warmLoads := ⟨qa_dX9_warmLoads, by decide +kernel⟩
theorem qa_dX9_burnings : qa_de qa_mX9_burnings = true := by decide +kernel
theorem qa_oX9_burnings : qa_Ok qa_mX9_burnings := ⟨qa_dX9_burnings, by decide +kernel⟩
theorem qa_dX9_waited : qa_de qa_mX9_waited = true := by decide +kernel
theorem qa_oX9_waited : qa_Ok qa_mX9_waited := ⟨qa_dX9_waited, by decide +kernel⟩
theorem qa_dX9_hitShare : qa_de qa_mX9_hitShare = true := by decide +kernel
theorem qa_oX9_hitShare : qa_Ok qa_mX9_hitShare := ⟨qa_dX9_hitShare, by decide +kernel⟩
theorem qa_dX9_waitOnTrial : qa_de qa_mX9_waitOnTrial = true := by decide +kernel
theorem qa_oX9_waitOnTrial : qa_Ok qa_mX9_waitOnTrial := ⟨qa_dX9_waitOnTrial, by decide +kernel⟩
theorem qa_dX9_missesOnTrial : qa_de qa_mX9_missesOnTrial = true := by decide +kernel
theorem qa_oX9_missesOnTrial : qa_Ok qa_mX9_missesOnTrial := ⟨qa_dX9_missesOnTrial, by decide +kernel⟩
theorem qa_dX9_needArgument : qa_de qa_mX9_needArgument = true := by decide +kernel
theorem qa_oX9_needArgument : qa_Ok qa_mX9_needArgument := ⟨qa_dX9_needArgument, by decide +kernel⟩
theorem qa_dX9_needIndex : qa_de qa_mX9_needIndex = true := by decide +kernel
theorem qa_oX9_needIndex : qa_Ok qa_mX9_needIndex := ⟨qa_dX9_needIndex, by decide +kernel⟩
theorem qa_dX9_needState : qa_de qa_mX9_needState = true := by decide +kernel
theorem qa_oX9_needState : qa_Ok qa_mX9_needState := ⟨qa_dX9_needState, by decide +kernel⟩
theorem qa_dX9_isWithin : qa_de qa_mX9_isWithin = true := by decide +kernel
theorem qa_oX9_isWithin : qa_Ok qa_mX9_isWithin := ⟨qa_dX9_isWithin, by decide +kernel⟩
theorem qa_dX9_at : qa_de qa_mX9_at = true := by decide +kernel
theorem qa_oX9_at : qa_Ok qa_mX9_at := ⟨qa_dX9_at, by decide +kernel⟩
theorem qa_dX9_set : qa_de qa_mX9_set = true := by decide +kernel
theorem qa_oX9_set : qa_Ok qa_mX9_set := ⟨qa_dX9_set, by decide +kernel⟩
theorem qa_dX9_copyRow : qa_de qa_mX9_copyRow = true := by decide +kernel
theorem qa_oX9_copyRow : qa_Ok qa_mX9_copyRow := ⟨qa_dX9_copyRow, by decide +kernel⟩
theorem qa_dL_cell : qa_de qa_mL_cell = true := by decide +kernel
theorem qa_oL_cell : qa_Ok qa_mL_cell := ⟨qa_dL_cell, by decide +kernel⟩
theorem qa_dL_low : qa_de qa_mL_low = true := by decide +kernel
theorem qa_oL_low : qa_Ok qa_mL_low := ⟨qa_dL_low, by decide +kernel⟩
theorem qa_dL_told : qa_de qa_mL_told = true := by decide +kernel
theorem qa_oL_told : qa_Ok qa_mL_told := ⟨qa_dL_told, by decide +kernel⟩
theorem qa_dL_showPlace : qa_de qa_mL_showPlace = true := by decide +kernel
theorem qa_oL_showPlace : qa_Ok qa_mL_showPlace := ⟨qa_dL_showPlace, by decide +kernel⟩
theorem qa_dL_isAsked : qa_de qa_mL_isAsked = true := by decide +kernel
theorem qa_oL_isAsked : qa_Ok qa_mL_isAsked := ⟨qa_dL_isAsked, by decide +kernel⟩
theorem qa_dL_does : qa_de qa_mL_does = true := by decide +kernel
theorem qa_oL_does : qa_Ok qa_mL_does := ⟨qa_dL_does, by decide +kernel⟩
theorem qa_dL_isInserted : qa_de qa_mL_isInserted = true := by decide +kernel
theorem qa_oL_isInserted : qa_Ok qa_mL_isInserted := ⟨qa_dL_isInserted, by decide +kernel⟩
theorem qa_dL_isTaken : qa_de qa_mL_isTaken = true := by decide +kernel
theorem qa_oL_isTaken : qa_Ok qa_mL_isTaken := ⟨qa_dL_isTaken, by decide +kernel⟩
theorem qa_dL_isGone : qa_de qa_mL_isGone = true := by decide +kernel
theorem qa_oL_isGone : qa_Ok qa_mL_isGone := ⟨qa_dL_isGone, by decide +kernel⟩
theorem qa_dL_isBurnt : qa_de qa_mL_isBurnt = true := by decide +kernel
theorem qa_oL_isBurnt : qa_Ok qa_mL_isBurnt := ⟨qa_dL_isBurnt, by decide +kernel⟩
theorem qa_dL_isTicked : qa_de qa_mL_isTicked = true := by decide +kernel
theorem qa_oL_isTicked : qa_Ok qa_mL_isTicked := ⟨qa_dL_isTicked, by decide +kernel⟩
theorem qa_dL_isAwaited : qa_de qa_mL_isAwaited = true := by decide +kernel
theorem qa_oL_isAwaited : qa_Ok qa_mL_isAwaited := ⟨qa_dL_isAwaited, by decide +kernel⟩
theorem qa_dL_isMemorySo : qa_de qa_mL_isMemorySo = true := by decide +kernel
theorem qa_oL_isMemorySo : qa_Ok qa_mL_isMemorySo := ⟨qa_dL_isMemorySo, by decide +kernel⟩
theorem qa_dL_isAskedSo : qa_de qa_mL_isAskedSo = true := by decide +kernel
theorem qa_oL_isAskedSo : qa_Ok qa_mL_isAskedSo := ⟨qa_dL_isAskedSo, by decide +kernel⟩
theorem qa_dL_isRoundSo : qa_de qa_mL_isRoundSo = true := by decide +kernel
theorem qa_oL_isRoundSo : qa_Ok qa_mL_isRoundSo := ⟨qa_dL_isRoundSo, by decide +kernel⟩
theorem qa_dL_law : qa_de qa_mL_law = true := by decide +kernel
