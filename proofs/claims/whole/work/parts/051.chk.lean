/-! the methods, checked one by one: each instruction, the words of its code and of its calls (written by wip/tools/mk_tab.py) -/
theorem qa_dX0_init : qa_de qa_mX0_init = true := by decide +kernel
theorem qa_oX0_init : qa_Ok qa_mX0_init := ⟨qa_dX0_init, by decide +kernel⟩
theorem qa_dX0_copyFrom : qa_de qa_mX0_copyFrom = true := by decide +kernel
theorem qa_oX0_copyFrom : qa_Ok qa_mX0_copyFrom := ⟨qa_dX0_copyFrom, by decide +kernel⟩
theorem qa_dX0_shareOfHits : qa_de qa_mX0_shareOfHits = true := by decide +kernel
theorem qa_oX0_shareOfHits : qa_Ok qa_mX0_shareOfHits := ⟨qa_dX0_shareOfHits, by decide +kernel⟩
theorem qa_dX1_init : qa_de qa_mX1_init = true := by decide +kernel
theorem qa_oX1_init : qa_Ok qa_mX1_init := ⟨qa_dX1_init, by decide +kernel⟩
theorem qa_dX1_copyFrom : qa_de qa_mX1_copyFrom = true := by decide +kernel
theorem qa_oX1_copyFrom : qa_Ok qa_mX1_copyFrom := ⟨qa_dX1_copyFrom, by decide +kernel⟩
theorem qa_dX1_mayGoOn : qa_de qa_mX1_mayGoOn = true := by decide +kernel
theorem qa_oX1_mayGoOn : qa_Ok qa_mX1_mayGoOn := ⟨qa_dX1_mayGoOn, by decide +kernel⟩
theorem qa_dX1_mayAsk : qa_de qa_mX1_mayAsk = true := by decide +kernel
theorem qa_oX1_mayAsk : qa_Ok qa_mX1_mayAsk := ⟨qa_dX1_mayAsk, by decide +kernel⟩
theorem qa_dX1_mayBurn : qa_de qa_mX1_mayBurn = true := by decide +kernel
theorem qa_oX1_mayBurn : qa_Ok qa_mX1_mayBurn := ⟨qa_dX1_mayBurn, by decide +kernel⟩
theorem qa_dX1_obey : qa_de qa_mX1_obey = true := by decide +kernel
theorem qa_oX1_obey : qa_Ok qa_mX1_obey := ⟨qa_dX1_obey, by decide +kernel⟩
theorem qa_dX1_obeyGoOn : qa_de qa_mX1_obeyGoOn = true := by decide +kernel
theorem qa_oX1_obeyGoOn : qa_Ok qa_mX1_obeyGoOn := ⟨qa_dX1_obeyGoOn, by decide +kernel⟩
theorem qa_dX1_obeyAsk : qa_de qa_mX1_obeyAsk = true := by decide +kernel
theorem qa_oX1_obeyAsk : qa_Ok qa_mX1_obeyAsk := ⟨qa_dX1_obeyAsk, by decide +kernel⟩
theorem qa_dX1_obeyBurn : qa_de qa_mX1_obeyBurn = true := by decide +kernel
theorem qa_oX1_obeyBurn : qa_Ok qa_mX1_obeyBurn := ⟨qa_dX1_obeyBurn, by decide +kernel⟩
theorem qa_dX1_obeyInsert : qa_de qa_mX1_obeyInsert = true := by decide +kernel
theorem qa_oX1_obeyInsert : qa_Ok qa_mX1_obeyInsert := ⟨qa_dX1_obeyInsert, by decide +kernel⟩
theorem qa_dX1_proceed : qa_de qa_mX1_proceed = true := by decide +kernel
theorem qa_oX1_proceed : qa_Ok qa_mX1_proceed := ⟨qa_dX1_proceed, by decide +kernel⟩
theorem qa_dX1_bringOn : qa_de qa_mX1_bringOn = true := by decide +kernel
theorem qa_oX1_bringOn : qa_Ok qa_mX1_bringOn := ⟨qa_dX1_bringOn, by decide +kernel⟩
theorem qa_dX1_passTicks : qa_de qa_mX1_passTicks = true := by decide +kernel
theorem qa_oX1_passTicks : qa_Ok qa_mX1_passTicks := ⟨qa_dX1_passTicks, by decide +kernel⟩
theorem qa_dX1_passTick : qa_de qa_mX1_passTick = true := by decide +kernel
theorem qa_oX1_passTick : qa_Ok qa_mX1_passTick := ⟨qa_dX1_passTick, by decide +kernel⟩
theorem qa_dX1_paceIsReached : qa_de qa_mX1_paceIsReached = true := by decide +kernel
theorem qa_oX1_paceIsReached : qa_Ok qa_mX1_paceIsReached := ⟨qa_dX1_paceIsReached, by decide +kernel⟩
theorem qa_dX1_loadOnce : qa_de qa_mX1_loadOnce = true := by decide +kernel
theorem qa_oX1_loadOnce : qa_Ok qa_mX1_loadOnce := ⟨qa_dX1_loadOnce, by decide +kernel⟩
theorem qa_dX1_beginLoading : qa_de qa_mX1_beginLoading = true := by decide +kernel
theorem qa_oX1_beginLoading : qa_Ok qa_mX1_beginLoading := ⟨qa_dX1_beginLoading, by decide +kernel⟩
theorem qa_dX1_nextToLoad : qa_de qa_mX1_nextToLoad = true := by decide +kernel
theorem qa_oX1_nextToLoad : qa_Ok qa_mX1_nextToLoad := ⟨qa_dX1_nextToLoad, by decide +kernel⟩
theorem qa_dX1_nextInGoodTime : qa_de qa_mX1_nextInGoodTime = true := by decide +kernel
theorem qa_oX1_nextInGoodTime : qa_Ok qa_mX1_nextInGoodTime := ⟨qa_dX1_nextInGoodTime, by decide +kernel⟩
theorem qa_dX1_putOnFire : qa_de qa_mX1_putOnFire = true := by decide +kernel
theorem qa_oX1_putOnFire : qa_Ok qa_mX1_putOnFire := ⟨qa_dX1_putOnFire, by decide +kernel⟩
theorem qa_dX1_burnDownTo : qa_de qa_mX1_burnDownTo = true := by decide +kernel
theorem qa_oX1_burnDownTo : qa_Ok qa_mX1_burnDownTo := ⟨qa_dX1_burnDownTo, by decide +kernel⟩
theorem qa_dX1_lineUp : qa_de qa_mX1_lineUp = true := by decide +kernel
theorem qa_oX1_lineUp : qa_Ok qa_mX1_lineUp := ⟨qa_dX1_lineUp, by decide +kernel⟩
theorem qa_dX1_weighByUseOrCost : qa_de qa_mX1_weighByUseOrCost = true := by decide +kernel
theorem qa_oX1_weighByUseOrCost : qa_Ok qa_mX1_weighByUseOrCost := ⟨qa_dX1_weighByUseOrCost, by decide +kernel⟩
theorem qa_dX1_weighByNextUse : qa_de qa_mX1_weighByNextUse = true := by decide +kernel
theorem qa_oX1_weighByNextUse : qa_Ok qa_mX1_weighByNextUse := ⟨qa_dX1_weighByNextUse, by decide +kernel⟩
theorem qa_dX1_placeInLine : qa_de qa_mX1_placeInLine = true := by decide +kernel
theorem qa_oX1_placeInLine : qa_Ok qa_mX1_placeInLine := ⟨qa_dX1_placeInLine, by decide +kernel⟩
theorem qa_dX1_burningsToLoad : qa_de qa_mX1_burningsToLoad = true := by decide +kernel
theorem qa_oX1_burningsToLoad : qa_Ok qa_mX1_burningsToLoad := ⟨qa_dX1_burningsToLoad, by decide +kernel⟩
theorem qa_dX1_sumOfCosts : qa_de qa_mX1_sumOfCosts = true := by decide +kernel
theorem qa_oX1_sumOfCosts : qa_Ok qa_mX1_sumOfCosts := ⟨qa_dX1_sumOfCosts, by decide +kernel⟩
theorem qa_dX1_sumOfWait : qa_de qa_mX1_sumOfWait = true := by decide +kernel
theorem qa_oX1_sumOfWait : qa_Ok qa_mX1_sumOfWait := ⟨qa_dX1_sumOfWait, by decide +kernel⟩
theorem qa_dX2_init : qa_de qa_mX2_init = true := by decide +kernel
theorem qa_oX2_init : qa_Ok qa_mX2_init := ⟨qa_dX2_init, by decide +kernel⟩
theorem qa_dX2_copyFrom : qa_de qa_mX2_copyFrom = true := by decide +kernel
theorem qa_oX2_copyFrom : qa_Ok qa_mX2_copyFrom := ⟨qa_dX2_copyFrom, by decide +kernel⟩
theorem qa_dX2_queuePlace : qa_de qa_mX2_queuePlace = true := by decide +kernel
theorem qa_oX2_queuePlace : qa_Ok qa_mX2_queuePlace := ⟨qa_dX2_queuePlace, by decide +kernel⟩
theorem qa_dX2_queue : qa_de qa_mX2_queue = true := by decide +kernel
theorem qa_oX2_queue : qa_Ok qa_mX2_queue := ⟨qa_dX2_queue, by decide +kernel⟩
theorem qa_dX2_unqueue : qa_de qa_mX2_unqueue = true := by decide +kernel
theorem qa_oX2_unqueue : qa_Ok qa_mX2_unqueue := ⟨qa_dX2_unqueue, by decide +kernel⟩
theorem qa_dX3_init : qa_de qa_mX3_init = true := by decide +kernel
theorem qa_oX3_init : qa_Ok qa_mX3_init := ⟨qa_dX3_init, by decide +kernel⟩
theorem qa_dX3_copyFrom : qa_de qa_mX3_copyFrom = true := by decide +kernel
theorem qa_oX3_copyFrom : qa_Ok qa_mX3_copyFrom := ⟨qa_dX3_copyFrom, by decide +kernel⟩
theorem qa_dX3_has : qa_de qa_mX3_has = true := by decide +kernel
theorem qa_oX3_has : qa_Ok qa_mX3_has := ⟨qa_dX3_has, by decide +kernel⟩
theorem qa_dX3_put : qa_de qa_mX3_put = true := by decide +kernel
theorem qa_oX3_put : qa_Ok qa_mX3_put := ⟨qa_dX3_put, by decide +kernel⟩
theorem qa_dX3_remove : qa_de qa_mX3_remove = true := by decide +kernel
theorem qa_oX3_remove : qa_Ok qa_mX3_remove := ⟨qa_dX3_remove, by decide +kernel⟩
theorem qa_dX3_advance : qa_de qa_mX3_advance = true := by decide +kernel
theorem qa_oX3_advance : qa_Ok qa_mX3_advance := ⟨qa_dX3_advance, by decide +kernel⟩
theorem qa_dX3_slideAhead : qa_de qa_mX3_slideAhead = true := by decide +kernel
theorem qa_oX3_slideAhead : qa_Ok qa_mX3_slideAhead := ⟨qa_dX3_slideAhead, by decide +kernel⟩
theorem qa_dX3_placesUntil : qa_de qa_mX3_placesUntil = true := by decide +kernel
theorem qa_oX3_placesUntil : qa_Ok qa_mX3_placesUntil := ⟨qa_dX3_placesUntil, by decide +kernel⟩
theorem qa_dX4_init : qa_de qa_mX4_init = true := by decide +kernel
theorem qa_oX4_init : qa_Ok qa_mX4_init := ⟨qa_dX4_init, by decide +kernel⟩
theorem qa_dX4_copyFrom : qa_de qa_mX4_copyFrom = true := by decide +kernel
theorem qa_oX4_copyFrom : qa_Ok qa_mX4_copyFrom := ⟨qa_dX4_copyFrom, by decide +kernel⟩
theorem qa_dX5_init : qa_de qa_mX5_init = true := by decide +kernel
theorem qa_oX5_init : qa_Ok qa_mX5_init := ⟨qa_dX5_init, by decide +kernel⟩
theorem qa_dX5_push : qa_de qa_mX5_push = true := by decide +kernel
theorem qa_oX5_push : qa_Ok qa_mX5_push := ⟨qa_dX5_push, by decide +kernel⟩
theorem qa_dX5_popInto : qa_de qa_mX5_popInto = true := by decide +kernel
theorem qa_oX5_popInto : qa_Ok qa_mX5_popInto := ⟨qa_dX5_popInto, by decide +kernel⟩
theorem qa_dX6_init : qa_de qa_mX6_init = true := by decide +kernel
theorem qa_oX6_init : qa_Ok qa_mX6_init := ⟨qa_dX6_init, by decide +kernel⟩
theorem qa_dX6_copyFrom : qa_de qa_mX6_copyFrom = true := by decide +kernel
theorem qa_oX6_copyFrom : qa_Ok qa_mX6_copyFrom := ⟨qa_dX6_copyFrom, by decide +kernel⟩
theorem qa_dX6_has : qa_de qa_mX6_has = true := by decide +kernel
theorem qa_oX6_has : qa_Ok qa_mX6_has := ⟨qa_dX6_has, by decide +kernel⟩
theorem qa_dX6_isReady : qa_de qa_mX6_isReady = true := by decide +kernel
theorem qa_oX6_isReady : qa_Ok qa_mX6_isReady := ⟨qa_dX6_isReady, by decide +kernel⟩
theorem qa_dX6_setReady : qa_de qa_mX6_setReady = true := by decide +kernel
theorem qa_oX6_setReady : qa_Ok qa_mX6_setReady := ⟨qa_dX6_setReady, by decide +kernel⟩
theorem qa_dX6_add : qa_de qa_mX6_add = true := by decide +kernel
theorem qa_oX6_add : qa_Ok qa_mX6_add := ⟨qa_dX6_add, by decide +kernel⟩
theorem qa_dX6_ticksToLoad : qa_de qa_mX6_ticksToLoad = true := by decide +kernel
theorem qa_oX6_ticksToLoad : qa_Ok qa_mX6_ticksToLoad := ⟨qa_dX6_ticksToLoad, by decide +kernel⟩
theorem qa_dX6_use : qa_de qa_mX6_use = true := by decide +kernel
theorem qa_oX6_use : qa_Ok qa_mX6_use := ⟨qa_dX6_use, by decide +kernel⟩
theorem qa_dX6_coolEmbers : qa_de qa_mX6_coolEmbers = true := by decide +kernel
theorem qa_oX6_coolEmbers : qa_Ok qa_mX6_coolEmbers := ⟨qa_dX6_coolEmbers, by decide +kernel⟩
theorem qa_dX7_init : qa_de qa_mX7_init = true := by decide +kernel
theorem qa_oX7_init : qa_Ok qa_mX7_init := ⟨qa_dX7_init, by decide +kernel⟩
theorem qa_dX7_copyFrom : qa_de qa_mX7_copyFrom = true := by decide +kernel
theorem qa_oX7_copyFrom : qa_Ok qa_mX7_copyFrom := ⟨qa_dX7_copyFrom, by decide +kernel⟩
theorem qa_dX7_bears : qa_de qa_mX7_bears = true := by decide +kernel
theorem qa_oX7_bears : qa_Ok qa_mX7_bears := ⟨qa_dX7_bears, by decide +kernel⟩
theorem qa_dX7_bring : qa_de qa_mX7_bring = true := by decide +kernel
theorem qa_oX7_bring : qa_Ok qa_mX7_bring := ⟨qa_dX7_bring, by decide +kernel⟩
theorem qa_dX7_fadeOnce : qa_de qa_mX7_fadeOnce = true := by decide +kernel
theorem qa_oX7_fadeOnce : qa_Ok qa_mX7_fadeOnce := ⟨qa_dX7_fadeOnce, by decide +kernel⟩
theorem qa_dX7_countShown : qa_de qa_mX7_countShown = true := by decide +kernel
theorem qa_oX7_countShown : qa_Ok qa_mX7_countShown := ⟨qa_dX7_countShown, by decide +kernel⟩
theorem qa_dX8_init : qa_de qa_mX8_init = true := by decide +kernel
theorem qa_oX8_init : qa_Ok qa_mX8_init := ⟨qa_dX8_init, by decide +kernel⟩
theorem qa_dX8_add : qa_de qa_mX8_add = true := by decide +kernel
theorem qa_oX8_add : qa_Ok qa_mX8_add := ⟨qa_dX8_add, by decide +kernel⟩
theorem qa_dX8_startReading : qa_de qa_mX8_startReading = true := by decide +kernel
theorem qa_oX8_startReading : qa_Ok qa_mX8_startReading := ⟨qa_dX8_startReading, by decide +kernel⟩
theorem qa_dX8_startPart : qa_de qa_mX8_startPart = true := by decide +kernel
theorem qa_oX8_startPart : qa_Ok qa_mX8_startPart := ⟨qa_dX8_startPart, by decide +kernel⟩
theorem qa_dX8_readPart : qa_de qa_mX8_readPart = true := by decide +kernel
theorem qa_oX8_readPart : qa_Ok qa_mX8_readPart := ⟨qa_dX8_readPart, by decide +kernel⟩
theorem qa_dX8_readToError : qa_de qa_mX8_readToError = true := by decide +kernel
theorem qa_oX8_readToError : qa_Ok qa_mX8_readToError := ⟨qa_dX8_readToError, by decide +kernel⟩
theorem qa_dX8_tellsOrders : qa_de qa_mX8_tellsOrders = true := by decide +kernel
theorem qa_oX8_tellsOrders : qa_Ok qa_mX8_tellsOrders := ⟨qa_dX8_tellsOrders, by decide +kernel⟩
theorem qa_dX8_partMayEnd : qa_de qa_mX8_partMayEnd = true := by decide +kernel
theorem qa_oX8_partMayEnd : qa_Ok qa_mX8_partMayEnd := ⟨qa_dX8_partMayEnd, by decide +kernel⟩
theorem qa_dX8_accept : qa_de qa_mX8_accept = true := by decide +kernel
theorem qa_oX8_accept : qa_Ok qa_mX8_accept := ⟨qa_dX8_accept, by decide +kernel⟩
theorem qa_dX8_acceptDigit : qa_de qa_mX8_acceptDigit = true := by decide +kernel
theorem qa_oX8_acceptDigit : qa_Ok qa_mX8_acceptDigit := ⟨qa_dX8_acceptDigit, by decide +kernel⟩
theorem qa_dX9_init : qa_de qa_mX9_init = true := by decide +kernel
theorem qa_oX9_init : qa_Ok qa_mX9_init := ⟨qa_dX9_init, by decide +kernel⟩
theorem qa_dX9_addSlide : qa_de qa_mX9_addSlide = true := by decide +kernel
theorem qa_oX9_addSlide : qa_Ok qa_mX9_addSlide := ⟨qa_dX9_addSlide, by decide +kernel⟩
theorem qa_dX9_insert : qa_de qa_mX9_insert = true := by decide +kernel
theorem qa_oX9_insert : qa_Ok qa_mX9_insert := ⟨qa_dX9_insert, by decide +kernel⟩
theorem qa_dX9_takeOut : qa_de qa_mX9_takeOut = true := by decide +kernel
theorem qa_oX9_takeOut : qa_Ok qa_mX9_takeOut := ⟨qa_dX9_takeOut, by decide +kernel⟩
theorem qa_dX9_goOn : qa_de qa_mX9_goOn = true := by decide +kernel
theorem qa_oX9_goOn : qa_Ok qa_mX9_goOn := ⟨qa_dX9_goOn, by decide +kernel⟩
theorem qa_dX9_ask : qa_de qa_mX9_ask = true := by decide +kernel
theorem qa_oX9_ask : qa_Ok qa_mX9_ask := ⟨qa_dX9_ask, by decide +kernel⟩
theorem qa_dX9_burn : qa_de qa_mX9_burn = true := by decide +kernel
theorem qa_oX9_burn : qa_Ok qa_mX9_burn := ⟨qa_dX9_burn, by decide +kernel⟩
theorem qa_dX9_tick : qa_de qa_mX9_tick = true := by decide +kernel
theorem qa_oX9_tick : qa_Ok qa_mX9_tick := ⟨qa_dX9_tick, by decide +kernel⟩
theorem qa_dX9_changeMemory : qa_de qa_mX9_changeMemory = true := by decide +kernel
theorem qa_oX9_changeMemory : qa_Ok qa_mX9_changeMemory := ⟨qa_dX9_changeMemory, by decide +kernel⟩
theorem qa_dX9_changeAhead : qa_de qa_mX9_changeAhead = true := by decide +kernel
theorem qa_oX9_changeAhead : qa_Ok qa_mX9_changeAhead := ⟨qa_dX9_changeAhead, by decide +kernel⟩
theorem qa_dX9_changeOrder : qa_de qa_mX9_changeOrder = true := by decide +kernel
theorem qa_oX9_changeOrder : qa_Ok qa_mX9_changeOrder := ⟨qa_dX9_changeOrder, by decide +kernel⟩
theorem qa_dX9_changeGlow : qa_de qa_mX9_changeGlow = true := by decide +kernel
theorem qa_oX9_changeGlow : qa_Ok qa_mX9_changeGlow := ⟨qa_dX9_changeGlow, by decide +kernel⟩
theorem qa_dX9_changePace : qa_de qa_mX9_changePace = true := by decide +kernel
theorem qa_oX9_changePace : qa_Ok qa_mX9_changePace := ⟨qa_dX9_changePace, by decide +kernel⟩
theorem qa_dX9_append : qa_de qa_mX9_append = true := by decide +kernel
theorem qa_oX9_append : qa_Ok qa_mX9_append := ⟨qa_dX9_append, by decide +kernel⟩
theorem qa_dX9_clearBuffer : qa_de qa_mX9_clearBuffer = true := by decide +kernel
theorem qa_oX9_clearBuffer : qa_Ok qa_mX9_clearBuffer := ⟨qa_dX9_clearBuffer, by decide +kernel⟩
theorem qa_dX9_firstError : qa_de qa_mX9_firstError = true := by decide +kernel
theorem qa_oX9_firstError : qa_Ok qa_mX9_firstError := ⟨qa_dX9_firstError, by decide +kernel⟩
theorem qa_dX9_follow : qa_de qa_mX9_follow = true := by decide +kernel
theorem qa_oX9_follow : qa_Ok qa_mX9_follow := ⟨qa_dX9_follow, by decide +kernel⟩
theorem qa_dX9_keep : qa_de qa_mX9_keep = true := by decide +kernel
theorem qa_oX9_keep : qa_Ok qa_mX9_keep := ⟨qa_dX9_keep, by decide +kernel⟩
theorem qa_dX9_goBack : qa_de qa_mX9_goBack = true := by decide +kernel
theorem qa_oX9_goBack : qa_Ok qa_mX9_goBack := ⟨qa_dX9_goBack, by decide +kernel⟩
theorem qa_dX9_undo : qa_de qa_mX9_undo = true := by decide +kernel
theorem qa_oX9_undo : qa_Ok qa_mX9_undo := ⟨qa_dX9_undo, by decide +kernel⟩
theorem qa_dX9_savedStates : qa_de qa_mX9_savedStates = true := by decide +kernel
theorem qa_oX9_savedStates : qa_Ok qa_mX9_savedStates := ⟨qa_dX9_savedStates, by decide +kernel⟩
theorem qa_dX9_slides : qa_de qa_mX9_slides = true := by decide +kernel
theorem qa_oX9_slides : qa_Ok qa_mX9_slides := ⟨qa_dX9_slides, by decide +kernel⟩
theorem qa_dX9_costOf : qa_de qa_mX9_costOf = true := by decide +kernel
theorem qa_oX9_costOf : qa_Ok qa_mX9_costOf := ⟨qa_dX9_costOf, by decide +kernel⟩
theorem qa_dX9_loadOf : qa_de qa_mX9_loadOf = true := by decide +kernel
theorem qa_oX9_loadOf : qa_Ok qa_mX9_loadOf := ⟨qa_dX9_loadOf, by decide +kernel⟩
theorem qa_dX9_fadeOf : qa_de qa_mX9_fadeOf = true := by decide +kernel
theorem qa_oX9_fadeOf : qa_Ok qa_mX9_fadeOf := ⟨qa_dX9_fadeOf, by decide +kernel⟩
theorem qa_dX9_isLoaded : qa_de qa_mX9_isLoaded = true := by decide +kernel
theorem qa_oX9_isLoaded : qa_Ok qa_mX9_isLoaded := ⟨qa_dX9_isLoaded, by decide +kernel⟩
theorem qa_dX9_isOnShow : qa_de qa_mX9_isOnShow = true := by decide +kernel
theorem qa_oX9_isOnShow : qa_Ok qa_mX9_isOnShow := ⟨qa_dX9_isOnShow, by decide +kernel⟩
theorem qa_dX9_glowOf : qa_de qa_mX9_glowOf = true := by decide +kernel
theorem qa_oX9_glowOf : qa_Ok qa_mX9_glowOf := ⟨qa_dX9_glowOf, by decide +kernel⟩
theorem qa_dX9_burntTimes : qa_de qa_mX9_burntTimes = true := by decide +kernel
theorem qa_oX9_burntTimes : qa_Ok qa_mX9_burntTimes := ⟨qa_dX9_burntTimes, by decide +kernel⟩
theorem qa_dX9_nextUse : qa_de qa_mX9_nextUse = true := by decide +kernel
theorem qa_oX9_nextUse : qa_Ok qa_mX9_nextUse := ⟨qa_dX9_nextUse, by decide +kernel⟩
theorem qa_dX9_burnPlace : qa_de qa_mX9_burnPlace = true := by decide +kernel
theorem qa_oX9_burnPlace : qa_Ok qa_mX9_burnPlace := ⟨qa_dX9_burnPlace, by decide +kernel⟩
theorem qa_dX9_places : qa_de qa_mX9_places = true := by decide +kernel
theorem qa_oX9_places : qa_Ok qa_mX9_places := ⟨qa_dX9_places, by decide +kernel⟩
theorem qa_dX9_slideAt : qa_de qa_mX9_slideAt = true := by decide +kernel
theorem qa_oX9_slideAt : qa_Ok qa_mX9_slideAt := ⟨qa_dX9_slideAt, by decide +kernel⟩
theorem qa_dX9_showPlace : qa_de qa_mX9_showPlace = true := by decide +kernel
theorem qa_oX9_showPlace : qa_Ok qa_mX9_showPlace := ⟨qa_dX9_showPlace, by decide +kernel⟩
theorem qa_dX9_shown : qa_de qa_mX9_shown = true := by decide +kernel
theorem qa_oX9_shown : qa_Ok qa_mX9_shown := ⟨qa_dX9_shown, by decide +kernel⟩
theorem qa_dX9_fading : qa_de qa_mX9_fading = true := by decide +kernel
theorem qa_oX9_fading : qa_Ok qa_mX9_fading := ⟨qa_dX9_fading, by decide +kernel⟩
theorem qa_dX9_fadeLeft : qa_de qa_mX9_fadeLeft = true := by decide +kernel
theorem qa_oX9_fadeLeft : qa_Ok qa_mX9_fadeLeft := ⟨qa_dX9_fadeLeft, by decide +kernel⟩
theorem qa_dX9_awaited : qa_de qa_mX9_awaited = true := by decide +kernel
theorem qa_oX9_awaited : qa_Ok qa_mX9_awaited := ⟨qa_dX9_awaited, by decide +kernel⟩
theorem qa_dX9_shownFor : qa_de qa_mX9_shownFor = true := by decide +kernel
theorem qa_oX9_shownFor : qa_Ok qa_mX9_shownFor := ⟨qa_dX9_shownFor, by decide +kernel⟩
theorem qa_dX9_loading : qa_de qa_mX9_loading = true := by decide +kernel
theorem qa_oX9_loading : qa_Ok qa_mX9_loading := ⟨qa_dX9_loading, by decide +kernel⟩
theorem qa_dX9_loadLeft : qa_de qa_mX9_loadLeft = true := by decide +kernel
theorem qa_oX9_loadLeft : qa_Ok qa_mX9_loadLeft := ⟨qa_dX9_loadLeft, by decide +kernel⟩
theorem qa_dX9_asked : qa_de qa_mX9_asked = true := by decide +kernel
theorem qa_oX9_asked : qa_Ok qa_mX9_asked := ⟨qa_dX9_asked, by decide +kernel⟩
theorem qa_dX9_askedAt : qa_de qa_mX9_askedAt = true := by decide +kernel
theorem qa_oX9_askedAt : qa_Ok qa_mX9_askedAt := ⟨qa_dX9_askedAt, by decide +kernel⟩
theorem qa_dX9_takenBySlides : qa_de qa_mX9_takenBySlides = true := by decide +kernel
theorem qa_oX9_takenBySlides : qa_Ok qa_mX9_takenBySlides := ⟨qa_dX9_takenBySlides, by decide +kernel⟩
theorem qa_dX9_takenByAccount : qa_de qa_mX9_takenByAccount = true := by decide +kernel
theorem qa_oX9_takenByAccount : qa_Ok qa_mX9_takenByAccount := ⟨qa_dX9_takenByAccount, by decide +kernel⟩
theorem qa_dX9_memory : qa_de qa_mX9_memory = true := by decide +kernel
theorem qa_oX9_memory : qa_Ok qa_mX9_memory := ⟨qa_dX9_memory, by decide +kernel⟩
theorem qa_dX9_ahead : qa_de qa_mX9_ahead = true := by decide +kernel
theorem qa_oX9_ahead : qa_Ok qa_mX9_ahead := ⟨qa_dX9_ahead, by decide +kernel⟩
theorem qa_dX9_order : qa_de qa_mX9_order = true := by decide +kernel
theorem qa_oX9_order : qa_Ok qa_mX9_order := ⟨qa_dX9_order, by decide +kernel⟩
theorem qa_dX9_glow : qa_de qa_mX9_glow = true := by decide +kernel
theorem qa_oX9_glow : qa_Ok qa_mX9_glow := ⟨qa_dX9_glow, by decide +kernel⟩
theorem qa_dX9_pace : qa_de qa_mX9_pace = true := by decide +kernel
theorem qa_oX9_pace : qa_Ok qa_mX9_pace := ⟨qa_dX9_pace, by decide +kernel⟩
theorem qa_dX9_ticksToShowByTicks : qa_de qa_mX9_ticksToShowByTicks = true := by decide +kernel
theorem qa_oX9_ticksToShowByTicks : qa_Ok qa_mX9_ticksToShowByTicks := ⟨qa_dX9_ticksToShowByTicks, by decide +kernel⟩
theorem qa_dX9_ticksToShowBySums : qa_de qa_mX9_ticksToShowBySums = true := by decide +kernel
theorem qa_oX9_ticksToShowBySums : qa_Ok qa_mX9_ticksToShowBySums := ⟨qa_dX9_ticksToShowBySums, by decide +kernel⟩
theorem qa_dX9_burningsFor : qa_de qa_mX9_burningsFor = true := by decide +kernel
theorem qa_oX9_burningsFor : qa_Ok qa_mX9_burningsFor := ⟨qa_dX9_burningsFor, by decide +kernel⟩
theorem qa_dX9_missesWith : qa_de qa_mX9_missesWith = true := by decide +kernel
theorem qa_oX9_missesWith : qa_Ok qa_mX9_missesWith := ⟨qa_dX9_missesWith, by decide +kernel⟩
theorem qa_dX9_bestOrder : qa_de qa_mX9_bestOrder = true := by decide +kernel
theorem qa_oX9_bestOrder : qa_Ok qa_mX9_bestOrder := ⟨qa_dX9_bestOrder, by decide +kernel⟩
theorem qa_dX9_time : qa_de qa_mX9_time = true := by decide +kernel
theorem qa_oX9_time : qa_Ok qa_mX9_time := ⟨qa_dX9_time, by decide +kernel⟩
theorem qa_dX9_hits : qa_de qa_mX9_hits = true := by decide +kernel
theorem qa_oX9_hits : qa_Ok qa_mX9_hits := ⟨qa_dX9_hits, by decide +kernel⟩
theorem qa_dX9_misses : qa_de qa_mX9_misses = true := by decide +kernel
theorem qa_oX9_misses : qa_Ok qa_mX9_misses := ⟨qa_dX9_misses, by decide +kernel⟩
theorem qa_dX9_loads : qa_de qa_mX9_loads = true := by decide +kernel
theorem qa_oX9_loads : qa_Ok qa_mX9_loads := ⟨qa_dX9_loads, by decide +kernel⟩
theorem qa_dX9_warmLoads : qa_de qa_mX9_warmLoads = true := by decide +kernel
theorem qa_oX9_warmLoads : qa_Ok qa_mX9_warmLoads := ⟨qa_dX9_warmLoads, by decide +kernel⟩
theorem qa_dX9_burnings : qa_de qa_mX9_burnings = true := by decide +kernel
theorem qa_oX9_burnings : qa_Ok qa_mX9_burnings := ⟨qa_dX9_burnings, by decide +kernel⟩
theorem qa_dX9_waited : qa_de qa_mX9_waited = true := by decide +kernel
theorem qa_oX9_waited : qa_Ok qa_mX9_waited := ⟨qa_dX9_waited, by decide +kernel⟩
theorem qa_dX9_hitShare : qa_de qa_mX9_hitShare = true := by decide +kernel
theorem qa_oX9_hitShare : qa_Ok qa_mX9_hitShare := ⟨qa_dX9_hitShare, by decide +kernel⟩
theorem qa_dX9_digest : qa_de qa_mX9_digest = true := by decide +kernel
theorem qa_oX9_digest : qa_Ok qa_mX9_digest := ⟨qa_dX9_digest, by decide +kernel⟩
theorem qa_dX9_mix : qa_de qa_mX9_mix = true := by decide +kernel
theorem qa_oX9_mix : qa_Ok qa_mX9_mix := ⟨qa_dX9_mix, by decide +kernel⟩
theorem qa_dX9_mixSlide : qa_de qa_mX9_mixSlide = true := by decide +kernel
theorem qa_oX9_mixSlide : qa_Ok qa_mX9_mixSlide := ⟨qa_dX9_mixSlide, by decide +kernel⟩
theorem qa_dX9_mixProgramme : qa_de qa_mX9_mixProgramme = true := by decide +kernel
theorem qa_oX9_mixProgramme : qa_Ok qa_mX9_mixProgramme := ⟨qa_dX9_mixProgramme, by decide +kernel⟩
theorem qa_dX9_mixLoading : qa_de qa_mX9_mixLoading = true := by decide +kernel
theorem qa_oX9_mixLoading : qa_Ok qa_mX9_mixLoading := ⟨qa_dX9_mixLoading, by decide +kernel⟩
theorem qa_dX9_mixAccounts : qa_de qa_mX9_mixAccounts = true := by decide +kernel
theorem qa_oX9_mixAccounts : qa_Ok qa_mX9_mixAccounts := ⟨qa_dX9_mixAccounts, by decide +kernel⟩
theorem qa_dX9_bitsOfShare : qa_de qa_mX9_bitsOfShare = true := by decide +kernel
theorem qa_oX9_bitsOfShare : qa_Ok qa_mX9_bitsOfShare := ⟨qa_dX9_bitsOfShare, by decide +kernel⟩
theorem qa_dX9_waitOnTrial : qa_de qa_mX9_waitOnTrial = true := by decide +kernel
theorem qa_oX9_waitOnTrial : qa_Ok qa_mX9_waitOnTrial := ⟨qa_dX9_waitOnTrial, by decide +kernel⟩
theorem qa_dX9_missesOnTrial : qa_de qa_mX9_missesOnTrial = true := by decide +kernel
theorem qa_oX9_missesOnTrial : qa_Ok qa_mX9_missesOnTrial := ⟨qa_dX9_missesOnTrial, by decide +kernel⟩
theorem qa_dX9_hasSnapshot : qa_de qa_mX9_hasSnapshot = true := by decide +kernel
theorem qa_oX9_hasSnapshot : qa_Ok qa_mX9_hasSnapshot := ⟨qa_dX9_hasSnapshot, by decide +kernel⟩
theorem qa_dX9_needArgument : qa_de qa_mX9_needArgument = true := by decide +kernel
theorem qa_oX9_needArgument : qa_Ok qa_mX9_needArgument := ⟨qa_dX9_needArgument, by decide +kernel⟩
theorem qa_dX9_needIndex : qa_de qa_mX9_needIndex = true := by decide +kernel
theorem qa_oX9_needIndex : qa_Ok qa_mX9_needIndex := ⟨qa_dX9_needIndex, by decide +kernel⟩
theorem qa_dX9_needState : qa_de qa_mX9_needState = true := by decide +kernel
theorem qa_oX9_needState : qa_Ok qa_mX9_needState := ⟨qa_dX9_needState, by decide +kernel⟩
theorem qa_dX9_isWithin : qa_de qa_mX9_isWithin = true := by decide +kernel
theorem qa_oX9_isWithin : qa_Ok qa_mX9_isWithin := ⟨qa_dX9_isWithin, by decide +kernel⟩
theorem qa_dX9_at : qa_de qa_mX9_at = true := by decide +kernel
theorem qa_oX9_at : qa_Ok qa_mX9_at := ⟨qa_dX9_at, by decide +kernel⟩
theorem qa_dX9_set : qa_de qa_mX9_set = true := by decide +kernel
theorem qa_oX9_set : qa_Ok qa_mX9_set := ⟨qa_dX9_set, by decide +kernel⟩
theorem qa_dX9_copyRow : qa_de qa_mX9_copyRow = true := by decide +kernel
theorem qa_oX9_copyRow : qa_Ok qa_mX9_copyRow := ⟨qa_dX9_copyRow, by decide +kernel⟩
theorem qa_dX10_init : qa_de qa_mX10_init = true := by decide +kernel
theorem qa_oX10_init : qa_Ok qa_mX10_init := ⟨qa_dX10_init, by decide +kernel⟩
theorem qa_dX10_thrown : qa_de qa_mX10_thrown = true := by decide +kernel
theorem qa_oX10_thrown : qa_Ok qa_mX10_thrown := ⟨qa_dX10_thrown, by decide +kernel⟩
theorem qa_dX10_throwing : qa_de qa_mX10_throwing = true := by decide +kernel
theorem qa_oX10_throwing : qa_Ok qa_mX10_throwing := ⟨qa_dX10_throwing, by decide +kernel⟩
theorem qa_dX10_in : qa_de qa_mX10_in = true := by decide +kernel
theorem qa_oX10_in : qa_Ok qa_mX10_in := ⟨qa_dX10_in, by decide +kernel⟩
theorem qa_dX10_save : qa_de qa_mX10_save = true := by decide +kernel
theorem qa_oX10_save : qa_Ok qa_mX10_save := ⟨qa_dX10_save, by decide +kernel⟩
theorem qa_dX10_of : qa_de qa_mX10_of = true := by decide +kernel
theorem qa_oX10_of : qa_Ok qa_mX10_of := ⟨qa_dX10_of, by decide +kernel⟩
theorem qa_dX10_lay : qa_de qa_mX10_lay = true := by decide +kernel
theorem qa_oX10_lay : qa_Ok qa_mX10_lay := ⟨qa_dX10_lay, by decide +kernel⟩
theorem qa_dX10_isThere : qa_de qa_mX10_isThere = true := by decide +kernel
theorem qa_oX10_isThere : qa_Ok qa_mX10_isThere := ⟨qa_dX10_isThere, by decide +kernel⟩
theorem qa_dX10_loaded : qa_de qa_mX10_loaded = true := by decide +kernel
theorem qa_oX10_loaded : qa_Ok qa_mX10_loaded := ⟨qa_dX10_loaded, by decide +kernel⟩
theorem qa_dX10_onShow : qa_de qa_mX10_onShow = true := by decide +kernel
theorem qa_oX10_onShow : qa_Ok qa_mX10_onShow := ⟨qa_dX10_onShow, by decide +kernel⟩
theorem qa_dX10_taken : qa_de qa_mX10_taken = true := by decide +kernel
theorem qa_oX10_taken : qa_Ok qa_mX10_taken := ⟨qa_dX10_taken, by decide +kernel⟩
theorem qa_dX10_nextOf : qa_de qa_mX10_nextOf = true := by decide +kernel
theorem qa_oX10_nextOf : qa_Ok qa_mX10_nextOf := ⟨qa_dX10_nextOf, by decide +kernel⟩
theorem qa_dX10_isFirst : qa_de qa_mX10_isFirst = true := by decide +kernel
theorem qa_oX10_isFirst : qa_Ok qa_mX10_isFirst := ⟨qa_dX10_isFirst, by decide +kernel⟩
theorem qa_dX10_canBurn : qa_de qa_mX10_canBurn = true := by decide +kernel
theorem qa_oX10_canBurn : qa_Ok qa_mX10_canBurn := ⟨qa_dX10_canBurn, by decide +kernel⟩
theorem qa_dX10_nextToBurn : qa_de qa_mX10_nextToBurn = true := by decide +kernel
theorem qa_oX10_nextToBurn : qa_Ok qa_mX10_nextToBurn := ⟨qa_dX10_nextToBurn, by decide +kernel⟩
theorem qa_dX10_burns : qa_de qa_mX10_burns = true := by decide +kernel
theorem qa_oX10_burns : qa_Ok qa_mX10_burns := ⟨qa_dX10_burns, by decide +kernel⟩
theorem qa_dX10_makesRoom : qa_de qa_mX10_makesRoom = true := by decide +kernel
theorem qa_oX10_makesRoom : qa_Ok qa_mX10_makesRoom := ⟨qa_dX10_makesRoom, by decide +kernel⟩
theorem qa_dX10_due : qa_de qa_mX10_due = true := by decide +kernel
theorem qa_oX10_due : qa_Ok qa_mX10_due := ⟨qa_dX10_due, by decide +kernel⟩
theorem qa_dX10_starts : qa_de qa_mX10_starts = true := by decide +kernel
theorem qa_oX10_starts : qa_Ok qa_mX10_starts := ⟨qa_dX10_starts, by decide +kernel⟩
theorem qa_dX10_forgets : qa_de qa_mX10_forgets = true := by decide +kernel
theorem qa_oX10_forgets : qa_Ok qa_mX10_forgets := ⟨qa_dX10_forgets, by decide +kernel⟩
theorem qa_dX10_begins : qa_de qa_mX10_begins = true := by decide +kernel
theorem qa_oX10_begins : qa_Ok qa_mX10_begins := ⟨qa_dX10_begins, by decide +kernel⟩
theorem qa_dX10_uses : qa_de qa_mX10_uses = true := by decide +kernel
theorem qa_oX10_uses : qa_Ok qa_mX10_uses := ⟨qa_dX10_uses, by decide +kernel⟩
theorem qa_dX10_shows : qa_de qa_mX10_shows = true := by decide +kernel
theorem qa_oX10_shows : qa_Ok qa_mX10_shows := ⟨qa_dX10_shows, by decide +kernel⟩
theorem qa_dX10_goesOn : qa_de qa_mX10_goesOn = true := by decide +kernel
theorem qa_oX10_goesOn : qa_Ok qa_mX10_goesOn := ⟨qa_dX10_goesOn, by decide +kernel⟩
theorem qa_dX10_ticks : qa_de qa_mX10_ticks = true := by decide +kernel
theorem qa_oX10_ticks : qa_Ok qa_mX10_ticks := ⟨qa_dX10_ticks, by decide +kernel⟩
theorem qa_dX10_inserts : qa_de qa_mX10_inserts = true := by decide +kernel
theorem qa_oX10_inserts : qa_Ok qa_mX10_inserts := ⟨qa_dX10_inserts, by decide +kernel⟩
theorem qa_dX10_canGoOn : qa_de qa_mX10_canGoOn = true := by decide +kernel
theorem qa_oX10_canGoOn : qa_Ok qa_mX10_canGoOn := ⟨qa_dX10_canGoOn, by decide +kernel⟩
theorem qa_dX10_isAsked : qa_de qa_mX10_isAsked = true := by decide +kernel
theorem qa_oX10_isAsked : qa_Ok qa_mX10_isAsked := ⟨qa_dX10_isAsked, by decide +kernel⟩
theorem qa_dX10_canAsk : qa_de qa_mX10_canAsk = true := by decide +kernel
theorem qa_oX10_canAsk : qa_Ok qa_mX10_canAsk := ⟨qa_dX10_canAsk, by decide +kernel⟩
theorem qa_dX10_asks : qa_de qa_mX10_asks = true := by decide +kernel
theorem qa_oX10_asks : qa_Ok qa_mX10_asks := ⟨qa_dX10_asks, by decide +kernel⟩
theorem qa_dX10_passes : qa_de qa_mX10_passes = true := by decide +kernel
theorem qa_oX10_passes : qa_Ok qa_mX10_passes := ⟨qa_dX10_passes, by decide +kernel⟩
theorem qa_dX10_addSlide : qa_de qa_mX10_addSlide = true := by decide +kernel
theorem qa_oX10_addSlide : qa_Ok qa_mX10_addSlide := ⟨qa_dX10_addSlide, by decide +kernel⟩
theorem qa_dX10_insert : qa_de qa_mX10_insert = true := by decide +kernel
theorem qa_oX10_insert : qa_Ok qa_mX10_insert := ⟨qa_dX10_insert, by decide +kernel⟩
theorem qa_dX10_takeOut : qa_de qa_mX10_takeOut = true := by decide +kernel
theorem qa_oX10_takeOut : qa_Ok qa_mX10_takeOut := ⟨qa_dX10_takeOut, by decide +kernel⟩
theorem qa_dX10_goOn : qa_de qa_mX10_goOn = true := by decide +kernel
theorem qa_oX10_goOn : qa_Ok qa_mX10_goOn := ⟨qa_dX10_goOn, by decide +kernel⟩
theorem qa_dX10_ask : qa_de qa_mX10_ask = true := by decide +kernel
theorem qa_oX10_ask : qa_Ok qa_mX10_ask := ⟨qa_dX10_ask, by decide +kernel⟩
theorem qa_dX10_burn : qa_de qa_mX10_burn = true := by decide +kernel
theorem qa_oX10_burn : qa_Ok qa_mX10_burn := ⟨qa_dX10_burn, by decide +kernel⟩
theorem qa_dX10_tick : qa_de qa_mX10_tick = true := by decide +kernel
theorem qa_oX10_tick : qa_Ok qa_mX10_tick := ⟨qa_dX10_tick, by decide +kernel⟩
theorem qa_dX10_changes : qa_de qa_mX10_changes = true := by decide +kernel
theorem qa_oX10_changes : qa_Ok qa_mX10_changes := ⟨qa_dX10_changes, by decide +kernel⟩
theorem qa_dX10_changeMemory : qa_de qa_mX10_changeMemory = true := by decide +kernel
theorem qa_oX10_changeMemory : qa_Ok qa_mX10_changeMemory := ⟨qa_dX10_changeMemory, by decide +kernel⟩
theorem qa_dX10_changeAhead : qa_de qa_mX10_changeAhead = true := by decide +kernel
theorem qa_oX10_changeAhead : qa_Ok qa_mX10_changeAhead := ⟨qa_dX10_changeAhead, by decide +kernel⟩
theorem qa_dX10_changeOrder : qa_de qa_mX10_changeOrder = true := by decide +kernel
theorem qa_oX10_changeOrder : qa_Ok qa_mX10_changeOrder := ⟨qa_dX10_changeOrder, by decide +kernel⟩
theorem qa_dX10_changeGlow : qa_de qa_mX10_changeGlow = true := by decide +kernel
theorem qa_oX10_changeGlow : qa_Ok qa_mX10_changeGlow := ⟨qa_dX10_changeGlow, by decide +kernel⟩
theorem qa_dX10_changePace : qa_de qa_mX10_changePace = true := by decide +kernel
theorem qa_oX10_changePace : qa_Ok qa_mX10_changePace := ⟨qa_dX10_changePace, by decide +kernel⟩
theorem qa_dX10_append : qa_de qa_mX10_append = true := by decide +kernel
theorem qa_oX10_append : qa_Ok qa_mX10_append := ⟨qa_dX10_append, by decide +kernel⟩
theorem qa_dX10_clearBuffer : qa_de qa_mX10_clearBuffer = true := by decide +kernel
theorem qa_oX10_clearBuffer : qa_Ok qa_mX10_clearBuffer := ⟨qa_dX10_clearBuffer, by decide +kernel⟩
theorem qa_dX10_sign : qa_de qa_mX10_sign = true := by decide +kernel
theorem qa_oX10_sign : qa_Ok qa_mX10_sign := ⟨qa_dX10_sign, by decide +kernel⟩
theorem qa_dX10_number : qa_de qa_mX10_number = true := by decide +kernel
theorem qa_oX10_number : qa_Ok qa_mX10_number := ⟨qa_dX10_number, by decide +kernel⟩
theorem qa_dX10_isOrdered : qa_de qa_mX10_isOrdered = true := by decide +kernel
theorem qa_oX10_isOrdered : qa_Ok qa_mX10_isOrdered := ⟨qa_dX10_isOrdered, by decide +kernel⟩
theorem qa_dX10_isFollowed : qa_de qa_mX10_isFollowed = true := by decide +kernel
theorem qa_oX10_isFollowed : qa_Ok qa_mX10_isFollowed := ⟨qa_dX10_isFollowed, by decide +kernel⟩
theorem qa_dX10_go : qa_de qa_mX10_go = true := by decide +kernel
theorem qa_oX10_go : qa_Ok qa_mX10_go := ⟨qa_dX10_go, by decide +kernel⟩
theorem qa_dX10_firstError : qa_de qa_mX10_firstError = true := by decide +kernel
theorem qa_oX10_firstError : qa_Ok qa_mX10_firstError := ⟨qa_dX10_firstError, by decide +kernel⟩
theorem qa_dX10_keepsAside : qa_de qa_mX10_keepsAside = true := by decide +kernel
theorem qa_oX10_keepsAside : qa_Ok qa_mX10_keepsAside := ⟨qa_dX10_keepsAside, by decide +kernel⟩
theorem qa_dX10_putsBack : qa_de qa_mX10_putsBack = true := by decide +kernel
theorem qa_oX10_putsBack : qa_Ok qa_mX10_putsBack := ⟨qa_dX10_putsBack, by decide +kernel⟩
theorem qa_dX10_follow : qa_de qa_mX10_follow = true := by decide +kernel
theorem qa_oX10_follow : qa_Ok qa_mX10_follow := ⟨qa_dX10_follow, by decide +kernel⟩
theorem qa_dX10_keep : qa_de qa_mX10_keep = true := by decide +kernel
theorem qa_oX10_keep : qa_Ok qa_mX10_keep := ⟨qa_dX10_keep, by decide +kernel⟩
theorem qa_dX10_goBack : qa_de qa_mX10_goBack = true := by decide +kernel
theorem qa_oX10_goBack : qa_Ok qa_mX10_goBack := ⟨qa_dX10_goBack, by decide +kernel⟩
theorem qa_dX10_undo : qa_de qa_mX10_undo = true := by decide +kernel
theorem qa_oX10_undo : qa_Ok qa_mX10_undo := ⟨qa_dX10_undo, by decide +kernel⟩
theorem qa_dX10_savedStates : qa_de qa_mX10_savedStates = true := by decide +kernel
theorem qa_oX10_savedStates : qa_Ok qa_mX10_savedStates := ⟨qa_dX10_savedStates, by decide +kernel⟩
theorem qa_dX10_rule : qa_de qa_mX10_rule = true := by decide +kernel
theorem qa_oX10_rule : qa_Ok qa_mX10_rule := ⟨qa_dX10_rule, by decide +kernel⟩
theorem qa_dX10_slides : qa_de qa_mX10_slides = true := by decide +kernel
theorem qa_oX10_slides : qa_Ok qa_mX10_slides := ⟨qa_dX10_slides, by decide +kernel⟩
theorem qa_dX10_costOf : qa_de qa_mX10_costOf = true := by decide +kernel
theorem qa_oX10_costOf : qa_Ok qa_mX10_costOf := ⟨qa_dX10_costOf, by decide +kernel⟩
theorem qa_dX10_loadOf : qa_de qa_mX10_loadOf = true := by decide +kernel
theorem qa_oX10_loadOf : qa_Ok qa_mX10_loadOf := ⟨qa_dX10_loadOf, by decide +kernel⟩
theorem qa_dX10_fadeOf : qa_de qa_mX10_fadeOf = true := by decide +kernel
theorem qa_oX10_fadeOf : qa_Ok qa_mX10_fadeOf := ⟨qa_dX10_fadeOf, by decide +kernel⟩
theorem qa_dX10_isLoaded : qa_de qa_mX10_isLoaded = true := by decide +kernel
theorem qa_oX10_isLoaded : qa_Ok qa_mX10_isLoaded := ⟨qa_dX10_isLoaded, by decide +kernel⟩
theorem qa_dX10_isOnShow : qa_de qa_mX10_isOnShow = true := by decide +kernel
theorem qa_oX10_isOnShow : qa_Ok qa_mX10_isOnShow := ⟨qa_dX10_isOnShow, by decide +kernel⟩
theorem qa_dX10_glowOf : qa_de qa_mX10_glowOf = true := by decide +kernel
theorem qa_oX10_glowOf : qa_Ok qa_mX10_glowOf := ⟨qa_dX10_glowOf, by decide +kernel⟩
theorem qa_dX10_burntTimes : qa_de qa_mX10_burntTimes = true := by decide +kernel
theorem qa_oX10_burntTimes : qa_Ok qa_mX10_burntTimes := ⟨qa_dX10_burntTimes, by decide +kernel⟩
theorem qa_dX10_nextUse : qa_de qa_mX10_nextUse = true := by decide +kernel
theorem qa_oX10_nextUse : qa_Ok qa_mX10_nextUse := ⟨qa_dX10_nextUse, by decide +kernel⟩
theorem qa_dX10_inOrder : qa_de qa_mX10_inOrder = true := by decide +kernel
theorem qa_oX10_inOrder : qa_Ok qa_mX10_inOrder := ⟨qa_dX10_inOrder, by decide +kernel⟩
theorem qa_dX10_burnPlace : qa_de qa_mX10_burnPlace = true := by decide +kernel
theorem qa_oX10_burnPlace : qa_Ok qa_mX10_burnPlace := ⟨qa_dX10_burnPlace, by decide +kernel⟩
theorem qa_dX10_places : qa_de qa_mX10_places = true := by decide +kernel
theorem qa_oX10_places : qa_Ok qa_mX10_places := ⟨qa_dX10_places, by decide +kernel⟩
theorem qa_dX10_slideAt : qa_de qa_mX10_slideAt = true := by decide +kernel
theorem qa_oX10_slideAt : qa_Ok qa_mX10_slideAt := ⟨qa_dX10_slideAt, by decide +kernel⟩
theorem qa_dX10_told : qa_de qa_mX10_told = true := by decide +kernel
theorem qa_oX10_told : qa_Ok qa_mX10_told := ⟨qa_dX10_told, by decide +kernel⟩
theorem qa_dX10_showPlace : qa_de qa_mX10_showPlace = true := by decide +kernel
theorem qa_oX10_showPlace : qa_Ok qa_mX10_showPlace := ⟨qa_dX10_showPlace, by decide +kernel⟩
theorem qa_dX10_shown : qa_de qa_mX10_shown = true := by decide +kernel
theorem qa_oX10_shown : qa_Ok qa_mX10_shown := ⟨qa_dX10_shown, by decide +kernel⟩
theorem qa_dX10_fading : qa_de qa_mX10_fading = true := by decide +kernel
theorem qa_oX10_fading : qa_Ok qa_mX10_fading := ⟨qa_dX10_fading, by decide +kernel⟩
theorem qa_dX10_fadeLeft : qa_de qa_mX10_fadeLeft = true := by decide +kernel
theorem qa_oX10_fadeLeft : qa_Ok qa_mX10_fadeLeft := ⟨qa_dX10_fadeLeft, by decide +kernel⟩
theorem qa_dX10_awaited : qa_de qa_mX10_awaited = true := by decide +kernel
theorem qa_oX10_awaited : qa_Ok qa_mX10_awaited := ⟨qa_dX10_awaited, by decide +kernel⟩
theorem qa_dX10_shownFor : qa_de qa_mX10_shownFor = true := by decide +kernel
theorem qa_oX10_shownFor : qa_Ok qa_mX10_shownFor := ⟨qa_dX10_shownFor, by decide +kernel⟩
theorem qa_dX10_loading : qa_de qa_mX10_loading = true := by decide +kernel
theorem qa_oX10_loading : qa_Ok qa_mX10_loading := ⟨qa_dX10_loading, by decide +kernel⟩
theorem qa_dX10_loadLeft : qa_de qa_mX10_loadLeft = true := by decide +kernel
theorem qa_oX10_loadLeft : qa_Ok qa_mX10_loadLeft := ⟨qa_dX10_loadLeft, by decide +kernel⟩
theorem qa_dX10_asked : qa_de qa_mX10_asked = true := by decide +kernel
theorem qa_oX10_asked : qa_Ok qa_mX10_asked := ⟨qa_dX10_asked, by decide +kernel⟩
theorem qa_dX10_askedAt : qa_de qa_mX10_askedAt = true := by decide +kernel
theorem qa_oX10_askedAt : qa_Ok qa_mX10_askedAt := ⟨qa_dX10_askedAt, by decide +kernel⟩
theorem qa_dX10_takenBySlides : qa_de qa_mX10_takenBySlides = true := by decide +kernel
theorem qa_oX10_takenBySlides : qa_Ok qa_mX10_takenBySlides := ⟨qa_dX10_takenBySlides, by decide +kernel⟩
theorem qa_dX10_takenByAccount : qa_de qa_mX10_takenByAccount = true := by decide +kernel
theorem qa_oX10_takenByAccount : qa_Ok qa_mX10_takenByAccount := ⟨qa_dX10_takenByAccount, by decide +kernel⟩
theorem qa_dX10_memory : qa_de qa_mX10_memory = true := by decide +kernel
theorem qa_oX10_memory : qa_Ok qa_mX10_memory := ⟨qa_dX10_memory, by decide +kernel⟩
theorem qa_dX10_ahead : qa_de qa_mX10_ahead = true := by decide +kernel
theorem qa_oX10_ahead : qa_Ok qa_mX10_ahead := ⟨qa_dX10_ahead, by decide +kernel⟩
theorem qa_dX10_order : qa_de qa_mX10_order = true := by decide +kernel
theorem qa_oX10_order : qa_Ok qa_mX10_order := ⟨qa_dX10_order, by decide +kernel⟩
theorem qa_dX10_glow : qa_de qa_mX10_glow = true := by decide +kernel
theorem qa_oX10_glow : qa_Ok qa_mX10_glow := ⟨qa_dX10_glow, by decide +kernel⟩
theorem qa_dX10_pace : qa_de qa_mX10_pace = true := by decide +kernel
theorem qa_oX10_pace : qa_Ok qa_mX10_pace := ⟨qa_dX10_pace, by decide +kernel⟩
theorem qa_dX10_untilShown : qa_de qa_mX10_untilShown = true := by decide +kernel
theorem qa_oX10_untilShown : qa_Ok qa_mX10_untilShown := ⟨qa_dX10_untilShown, by decide +kernel⟩
theorem qa_dX10_toldTicks : qa_de qa_mX10_toldTicks = true := by decide +kernel
theorem qa_oX10_toldTicks : qa_Ok qa_mX10_toldTicks := ⟨qa_dX10_toldTicks, by decide +kernel⟩
theorem qa_dX10_ticksToShowByTicks : qa_de qa_mX10_ticksToShowByTicks = true := by decide +kernel
theorem qa_oX10_ticksToShowByTicks : qa_Ok qa_mX10_ticksToShowByTicks := ⟨qa_dX10_ticksToShowByTicks, by decide +kernel⟩
theorem qa_dX10_ticksToShowBySums : qa_de qa_mX10_ticksToShowBySums = true := by decide +kernel
theorem qa_oX10_ticksToShowBySums : qa_Ok qa_mX10_ticksToShowBySums := ⟨qa_dX10_ticksToShowBySums, by decide +kernel⟩
theorem qa_dX10_burningsOf : qa_de qa_mX10_burningsOf = true := by decide +kernel
theorem qa_oX10_burningsOf : qa_Ok qa_mX10_burningsOf := ⟨qa_dX10_burningsOf, by decide +kernel⟩
theorem qa_dX10_burningsFor : qa_de qa_mX10_burningsFor = true := by decide +kernel
theorem qa_oX10_burningsFor : qa_Ok qa_mX10_burningsFor := ⟨qa_dX10_burningsFor, by decide +kernel⟩
theorem qa_dX10_missing : qa_de qa_mX10_missing = true := by decide +kernel
theorem qa_oX10_missing : qa_Ok qa_mX10_missing := ⟨qa_dX10_missing, by decide +kernel⟩
theorem qa_dX10_missesWith : qa_de qa_mX10_missesWith = true := by decide +kernel
theorem qa_oX10_missesWith : qa_Ok qa_mX10_missesWith := ⟨qa_dX10_missesWith, by decide +kernel⟩
theorem qa_dX10_bestOrder : qa_de qa_mX10_bestOrder = true := by decide +kernel
theorem qa_oX10_bestOrder : qa_Ok qa_mX10_bestOrder := ⟨qa_dX10_bestOrder, by decide +kernel⟩
theorem qa_dX10_loads : qa_de qa_mX10_loads = true := by decide +kernel
theorem qa_oX10_loads : qa_Ok qa_mX10_loads := ⟨qa_dX10_loads, by decide +kernel⟩
theorem qa_dX10_burnings : qa_de qa_mX10_burnings = true := by decide +kernel
theorem qa_oX10_burnings : qa_Ok qa_mX10_burnings := ⟨qa_dX10_burnings, by decide +kernel⟩
theorem qa_dX10_time : qa_de qa_mX10_time = true := by decide +kernel
theorem qa_oX10_time : qa_Ok qa_mX10_time := ⟨qa_dX10_time, by decide +kernel⟩
theorem qa_dX10_hits : qa_de qa_mX10_hits = true := by decide +kernel
theorem qa_oX10_hits : qa_Ok qa_mX10_hits := ⟨qa_dX10_hits, by decide +kernel⟩
theorem qa_dX10_misses : qa_de qa_mX10_misses = true := by decide +kernel
theorem qa_oX10_misses : qa_Ok qa_mX10_misses := ⟨qa_dX10_misses, by decide +kernel⟩
theorem qa_dX10_warmLoads : qa_de qa_mX10_warmLoads = true := by decide +kernel
theorem qa_oX10_warmLoads : qa_Ok qa_mX10_warmLoads := ⟨qa_dX10_warmLoads, by decide +kernel⟩
theorem qa_dX10_waited : qa_de qa_mX10_waited = true := by decide +kernel
theorem qa_oX10_waited : qa_Ok qa_mX10_waited := ⟨qa_dX10_waited, by decide +kernel⟩
theorem qa_dX10_share : qa_de qa_mX10_share = true := by decide +kernel
theorem qa_oX10_share : qa_Ok qa_mX10_share := ⟨qa_dX10_share, by decide +kernel⟩
theorem qa_dX10_hitShare : qa_de qa_mX10_hitShare = true := by decide +kernel
theorem qa_oX10_hitShare : qa_Ok qa_mX10_hitShare := ⟨qa_dX10_hitShare, by decide +kernel⟩
theorem qa_dX10_bitsOf : qa_de qa_mX10_bitsOf = true := by decide +kernel
theorem qa_oX10_bitsOf : qa_Ok qa_mX10_bitsOf := ⟨qa_dX10_bitsOf, by decide +kernel⟩
theorem qa_dX10_mix : qa_de qa_mX10_mix = true := by decide +kernel
theorem qa_oX10_mix : qa_Ok qa_mX10_mix := ⟨qa_dX10_mix, by decide +kernel⟩
theorem qa_dX10_mixesSlide : qa_de qa_mX10_mixesSlide = true := by decide +kernel
theorem qa_oX10_mixesSlide : qa_Ok qa_mX10_mixesSlide := ⟨qa_dX10_mixesSlide, by decide +kernel⟩
theorem qa_dX10_digest : qa_de qa_mX10_digest = true := by decide +kernel
theorem qa_oX10_digest : qa_Ok qa_mX10_digest := ⟨qa_dX10_digest, by decide +kernel⟩
theorem qa_dL_addSlide : qa_de qa_mL_addSlide = true := by decide +kernel
theorem qa_oL_addSlide : qa_Ok qa_mL_addSlide := ⟨qa_dL_addSlide, by decide +kernel⟩
theorem qa_dL_insert : qa_de qa_mL_insert = true := by decide +kernel
theorem qa_oL_insert : qa_Ok qa_mL_insert := ⟨qa_dL_insert, by decide +kernel⟩
theorem qa_dL_takeOut : qa_de qa_mL_takeOut = true := by decide +kernel
theorem qa_oL_takeOut : qa_Ok qa_mL_takeOut := ⟨qa_dL_takeOut, by decide +kernel⟩
theorem qa_dL_goOn : qa_de qa_mL_goOn = true := by decide +kernel
theorem qa_oL_goOn : qa_Ok qa_mL_goOn := ⟨qa_dL_goOn, by decide +kernel⟩
theorem qa_dL_ask : qa_de qa_mL_ask = true := by decide +kernel
theorem qa_oL_ask : qa_Ok qa_mL_ask := ⟨qa_dL_ask, by decide +kernel⟩
theorem qa_dL_burn : qa_de qa_mL_burn = true := by decide +kernel
theorem qa_oL_burn : qa_Ok qa_mL_burn := ⟨qa_dL_burn, by decide +kernel⟩
theorem qa_dL_tick : qa_de qa_mL_tick = true := by decide +kernel
theorem qa_oL_tick : qa_Ok qa_mL_tick := ⟨qa_dL_tick, by decide +kernel⟩
theorem qa_dL_changeMemory : qa_de qa_mL_changeMemory = true := by decide +kernel
theorem qa_oL_changeMemory : qa_Ok qa_mL_changeMemory := ⟨qa_dL_changeMemory, by decide +kernel⟩
theorem qa_dL_changeAhead : qa_de qa_mL_changeAhead = true := by decide +kernel
theorem qa_oL_changeAhead : qa_Ok qa_mL_changeAhead := ⟨qa_dL_changeAhead, by decide +kernel⟩
theorem qa_dL_changeOrder : qa_de qa_mL_changeOrder = true := by decide +kernel
theorem qa_oL_changeOrder : qa_Ok qa_mL_changeOrder := ⟨qa_dL_changeOrder, by decide +kernel⟩
theorem qa_dL_changeGlow : qa_de qa_mL_changeGlow = true := by decide +kernel
theorem qa_oL_changeGlow : qa_Ok qa_mL_changeGlow := ⟨qa_dL_changeGlow, by decide +kernel⟩
theorem qa_dL_changePace : qa_de qa_mL_changePace = true := by decide +kernel
theorem qa_oL_changePace : qa_Ok qa_mL_changePace := ⟨qa_dL_changePace, by decide +kernel⟩
theorem qa_dL_append : qa_de qa_mL_append = true := by decide +kernel
theorem qa_oL_append : qa_Ok qa_mL_append := ⟨qa_dL_append, by decide +kernel⟩
theorem qa_dL_follow : qa_de qa_mL_follow = true := by decide +kernel
theorem qa_oL_follow : qa_Ok qa_mL_follow := ⟨qa_dL_follow, by decide +kernel⟩
theorem qa_dL_keep : qa_de qa_mL_keep = true := by decide +kernel
theorem qa_oL_keep : qa_Ok qa_mL_keep := ⟨qa_dL_keep, by decide +kernel⟩
theorem qa_dL_goBack : qa_de qa_mL_goBack = true := by decide +kernel
theorem qa_oL_goBack : qa_Ok qa_mL_goBack := ⟨qa_dL_goBack, by decide +kernel⟩
theorem qa_dL_undo : qa_de qa_mL_undo = true := by decide +kernel
theorem qa_oL_undo : qa_Ok qa_mL_undo := ⟨qa_dL_undo, by decide +kernel⟩
theorem qa_dL_costOf : qa_de qa_mL_costOf = true := by decide +kernel
theorem qa_oL_costOf : qa_Ok qa_mL_costOf := ⟨qa_dL_costOf, by decide +kernel⟩
theorem qa_dL_loadOf : qa_de qa_mL_loadOf = true := by decide +kernel
theorem qa_oL_loadOf : qa_Ok qa_mL_loadOf := ⟨qa_dL_loadOf, by decide +kernel⟩
theorem qa_dL_fadeOf : qa_de qa_mL_fadeOf = true := by decide +kernel
theorem qa_oL_fadeOf : qa_Ok qa_mL_fadeOf := ⟨qa_dL_fadeOf, by decide +kernel⟩
theorem qa_dL_isLoaded : qa_de qa_mL_isLoaded = true := by decide +kernel
theorem qa_oL_isLoaded : qa_Ok qa_mL_isLoaded := ⟨qa_dL_isLoaded, by decide +kernel⟩
theorem qa_dL_isOnShow : qa_de qa_mL_isOnShow = true := by decide +kernel
theorem qa_oL_isOnShow : qa_Ok qa_mL_isOnShow := ⟨qa_dL_isOnShow, by decide +kernel⟩
theorem qa_dL_glowOf : qa_de qa_mL_glowOf = true := by decide +kernel
theorem qa_oL_glowOf : qa_Ok qa_mL_glowOf := ⟨qa_dL_glowOf, by decide +kernel⟩
theorem qa_dL_burntTimes : qa_de qa_mL_burntTimes = true := by decide +kernel
theorem qa_oL_burntTimes : qa_Ok qa_mL_burntTimes := ⟨qa_dL_burntTimes, by decide +kernel⟩
theorem qa_dL_nextUse : qa_de qa_mL_nextUse = true := by decide +kernel
theorem qa_oL_nextUse : qa_Ok qa_mL_nextUse := ⟨qa_dL_nextUse, by decide +kernel⟩
theorem qa_dL_burnPlace : qa_de qa_mL_burnPlace = true := by decide +kernel
theorem qa_oL_burnPlace : qa_Ok qa_mL_burnPlace := ⟨qa_dL_burnPlace, by decide +kernel⟩
theorem qa_dL_slideAt : qa_de qa_mL_slideAt = true := by decide +kernel
theorem qa_oL_slideAt : qa_Ok qa_mL_slideAt := ⟨qa_dL_slideAt, by decide +kernel⟩
theorem qa_dL_showPlace : qa_de qa_mL_showPlace = true := by decide +kernel
theorem qa_oL_showPlace : qa_Ok qa_mL_showPlace := ⟨qa_dL_showPlace, by decide +kernel⟩
theorem qa_dL_shown : qa_de qa_mL_shown = true := by decide +kernel
theorem qa_oL_shown : qa_Ok qa_mL_shown := ⟨qa_dL_shown, by decide +kernel⟩
theorem qa_dL_fading : qa_de qa_mL_fading = true := by decide +kernel
theorem qa_oL_fading : qa_Ok qa_mL_fading := ⟨qa_dL_fading, by decide +kernel⟩
theorem qa_dL_awaited : qa_de qa_mL_awaited = true := by decide +kernel
theorem qa_oL_awaited : qa_Ok qa_mL_awaited := ⟨qa_dL_awaited, by decide +kernel⟩
theorem qa_dL_shownFor : qa_de qa_mL_shownFor = true := by decide +kernel
theorem qa_oL_shownFor : qa_Ok qa_mL_shownFor := ⟨qa_dL_shownFor, by decide +kernel⟩
theorem qa_dL_loading : qa_de qa_mL_loading = true := by decide +kernel
theorem qa_oL_loading : qa_Ok qa_mL_loading := ⟨qa_dL_loading, by decide +kernel⟩
theorem qa_dL_askedAt : qa_de qa_mL_askedAt = true := by decide +kernel
theorem qa_oL_askedAt : qa_Ok qa_mL_askedAt := ⟨qa_dL_askedAt, by decide +kernel⟩
theorem qa_dL_ticksToShowByTicks : qa_de qa_mL_ticksToShowByTicks = true := by decide +kernel
theorem qa_oL_ticksToShowByTicks : qa_Ok qa_mL_ticksToShowByTicks := ⟨qa_dL_ticksToShowByTicks, by decide +kernel⟩
theorem qa_dL_ticksToShowBySums : qa_de qa_mL_ticksToShowBySums = true := by decide +kernel
theorem qa_oL_ticksToShowBySums : qa_Ok qa_mL_ticksToShowBySums := ⟨qa_dL_ticksToShowBySums, by decide +kernel⟩
theorem qa_dL_burningsFor : qa_de qa_mL_burningsFor = true := by decide +kernel
theorem qa_oL_burningsFor : qa_Ok qa_mL_burningsFor := ⟨qa_dL_burningsFor, by decide +kernel⟩
theorem qa_dL_missesWith : qa_de qa_mL_missesWith = true := by decide +kernel
theorem qa_oL_missesWith : qa_Ok qa_mL_missesWith := ⟨qa_dL_missesWith, by decide +kernel⟩
theorem qa_dL_bestOrder : qa_de qa_mL_bestOrder = true := by decide +kernel
theorem qa_oL_bestOrder : qa_Ok qa_mL_bestOrder := ⟨qa_dL_bestOrder, by decide +kernel⟩
theorem qa_dL_law_0 : qa_iL_law_0.all (fun q => decide (decode (qa_by qa_mL_law) q.1 = .ok (q.2.1, q.2.2))) = true := by decide +kernel
theorem qa_dL_law_1 : qa_iL_law_1.all (fun q => decide (decode (qa_by qa_mL_law) q.1 = .ok (q.2.1, q.2.2))) = true := by decide +kernel
theorem qa_dL_law_2 : qa_iL_law_2.all (fun q => decide (decode (qa_by qa_mL_law) q.1 = .ok (q.2.1, q.2.2))) = true := by decide +kernel
theorem qa_dL_law_3 : qa_iL_law_3.all (fun q => decide (decode (qa_by qa_mL_law) q.1 = .ok (q.2.1, q.2.2))) = true := by decide +kernel
theorem qa_dL_law_4 : qa_iL_law_4.all (fun q => decide (decode (qa_by qa_mL_law) q.1 = .ok (q.2.1, q.2.2))) = true := by decide +kernel
theorem qa_dL_law_5 : qa_iL_law_5.all (fun q => decide (decode (qa_by qa_mL_law) q.1 = .ok (q.2.1, q.2.2))) = true := by decide +kernel
theorem qa_dL_law_6 : qa_iL_law_6.all (fun q => decide (decode (qa_by qa_mL_law) q.1 = .ok (q.2.1, q.2.2))) = true := by decide +kernel
theorem qa_dL_law_7 : qa_iL_law_7.all (fun q => decide (decode (qa_by qa_mL_law) q.1 = .ok (q.2.1, q.2.2))) = true := by decide +kernel
theorem qa_dL_law_8 : qa_iL_law_8.all (fun q => decide (decode (qa_by qa_mL_law) q.1 = .ok (q.2.1, q.2.2))) = true := by decide +kernel
theorem qa_dL_law_9 : qa_iL_law_9.all (fun q => decide (decode (qa_by qa_mL_law) q.1 = .ok (q.2.1, q.2.2))) = true := by decide +kernel
theorem qa_dL_law_10 : qa_iL_law_10.all (fun q => decide (decode (qa_by qa_mL_law) q.1 = .ok (q.2.1, q.2.2))) = true := by decide +kernel
theorem qa_dL_law_11 : qa_iL_law_11.all (fun q => decide (decode (qa_by qa_mL_law) q.1 = .ok (q.2.1, q.2.2))) = true := by decide +kernel
theorem qa_dL_law_12 : qa_iL_law_12.all (fun q => decide (decode (qa_by qa_mL_law) q.1 = .ok (q.2.1, q.2.2))) = true := by decide +kernel
theorem qa_dL_law_13 : qa_iL_law_13.all (fun q => decide (decode (qa_by qa_mL_law) q.1 = .ok (q.2.1, q.2.2))) = true := by decide +kernel
theorem qa_dL_law_14 : qa_iL_law_14.all (fun q => decide (decode (qa_by qa_mL_law) q.1 = .ok (q.2.1, q.2.2))) = true := by decide +kernel
theorem qa_dL_law_15 : qa_iL_law_15.all (fun q => decide (decode (qa_by qa_mL_law) q.1 = .ok (q.2.1, q.2.2))) = true := by decide +kernel
theorem qa_dL_law_16 : qa_iL_law_16.all (fun q => decide (decode (qa_by qa_mL_law) q.1 = .ok (q.2.1, q.2.2))) = true := by decide +kernel
theorem qa_dL_law_17 : qa_iL_law_17.all (fun q => decide (decode (qa_by qa_mL_law) q.1 = .ok (q.2.1, q.2.2))) = true := by decide +kernel
theorem qa_dL_law_18 : qa_iL_law_18.all (fun q => decide (decode (qa_by qa_mL_law) q.1 = .ok (q.2.1, q.2.2))) = true := by decide +kernel
theorem qa_dL_law_19 : qa_iL_law_19.all (fun q => decide (decode (qa_by qa_mL_law) q.1 = .ok (q.2.1, q.2.2))) = true := by decide +kernel
theorem qa_dL_law_20 : qa_iL_law_20.all (fun q => decide (decode (qa_by qa_mL_law) q.1 = .ok (q.2.1, q.2.2))) = true := by decide +kernel
theorem qa_dL_law_21 : qa_iL_law_21.all (fun q => decide (decode (qa_by qa_mL_law) q.1 = .ok (q.2.1, q.2.2))) = true := by decide +kernel
theorem qa_dL_law_22 : qa_iL_law_22.all (fun q => decide (decode (qa_by qa_mL_law) q.1 = .ok (q.2.1, q.2.2))) = true := by decide +kernel
theorem qa_dL_law_23 : qa_iL_law_23.all (fun q => decide (decode (qa_by qa_mL_law) q.1 = .ok (q.2.1, q.2.2))) = true := by decide +kernel
theorem qa_dL_law_24 : qa_iL_law_24.all (fun q => decide (decode (qa_by qa_mL_law) q.1 = .ok (q.2.1, q.2.2))) = true := by decide +kernel
theorem qa_dL_law : qa_de qa_mL_law = true := by
  show (qa_iL_law).all (fun q => decide (decode (qa_by qa_mL_law) q.1 = .ok (q.2.1, q.2.2))) = true
  unfold qa_iL_law
  rw [List.all_append, qa_dL_law_0, List.all_append, qa_dL_law_1, List.all_append, qa_dL_law_2, List.all_append, qa_dL_law_3, List.all_append, qa_dL_law_4, List.all_append, qa_dL_law_5, List.all_append, qa_dL_law_6, List.all_append, qa_dL_law_7, List.all_append, qa_dL_law_8, List.all_append, qa_dL_law_9, List.all_append, qa_dL_law_10, List.all_append, qa_dL_law_11, List.all_append, qa_dL_law_12, List.all_append, qa_dL_law_13, List.all_append, qa_dL_law_14, List.all_append, qa_dL_law_15, List.all_append, qa_dL_law_16, List.all_append, qa_dL_law_17, List.all_append, qa_dL_law_18, List.all_append, qa_dL_law_19, List.all_append, qa_dL_law_20, List.all_append, qa_dL_law_21, List.all_append, qa_dL_law_22, List.all_append, qa_dL_law_23, qa_dL_law_24]
  rfl
