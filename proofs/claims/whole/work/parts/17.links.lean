abbrev mX0_init : MI := (yX0_init, cX0_init, 4, (Option.none : Option Jvm.ClassFile.FieldType), { frames := 6, cells := 1, slots := 3, locals := 126 })
abbrev mX0_mayBeAsked : MI := (yX0_mayBeAsked, cX0_mayBeAsked, 3, (Option.some Jvm.ClassFile.FieldType.boolean), { frames := 0, cells := 0, slots := 0, locals := 0 })
abbrev mX0_fits : MI := (yX0_fits, cX0_fits, 6, (Option.some Jvm.ClassFile.FieldType.boolean), { frames := 3, cells := 0, slots := 0, locals := 64 })
abbrev mX1_init : MI := (yX1_init, cX1_init, 4, (Option.none : Option Jvm.ClassFile.FieldType), { frames := 1, cells := 0, slots := 0, locals := 20 })
abbrev mX2_init : MI := (yX2_init, cX2_init, 5, (Option.none : Option Jvm.ClassFile.FieldType), { frames := 1, cells := 0, slots := 0, locals := 20 })
abbrev mX2_isToKeeper : MI := (yX2_isToKeeper, cX2_isToKeeper, 1, (Option.some Jvm.ClassFile.FieldType.boolean), { frames := 0, cells := 0, slots := 0, locals := 0 })
abbrev mX2_takeMarkOf : MI := (yX2_takeMarkOf, cX2_takeMarkOf, 2, (Option.none : Option Jvm.ClassFile.FieldType), { frames := 0, cells := 0, slots := 0, locals := 0 })
abbrev mX2_fill : MI := (yX2_fill, cX2_fill, 5, (Option.none : Option Jvm.ClassFile.FieldType), { frames := 0, cells := 0, slots := 0, locals := 0 })
abbrev mX3_init : MI := (yX3_init, cX3_init, 1, (Option.none : Option Jvm.ClassFile.FieldType), { frames := 1, cells := 0, slots := 0, locals := 20 })
abbrev mX3_keep : MI := (yX3_keep, cX3_keep, 4, (Option.none : Option Jvm.ClassFile.FieldType), { frames := 0, cells := 0, slots := 0, locals := 0 })
abbrev mX3_forget : MI := (yX3_forget, cX3_forget, 1, (Option.none : Option Jvm.ClassFile.FieldType), { frames := 0, cells := 0, slots := 0, locals := 0 })
abbrev mX4_init : MI := (yX4_init, cX4_init, 4, (Option.none : Option Jvm.ClassFile.FieldType), { frames := 4, cells := 1, slots := 3, locals := 80 })
abbrev mX4_mayBeAsked : MI := (yX4_mayBeAsked, cX4_mayBeAsked, 3, (Option.some Jvm.ClassFile.FieldType.boolean), { frames := 0, cells := 0, slots := 0, locals := 0 })
abbrev mX4_fits : MI := (yX4_fits, cX4_fits, 4, (Option.some Jvm.ClassFile.FieldType.boolean), { frames := 1, cells := 0, slots := 0, locals := 20 })
abbrev mX4_isWritten : MI := (yX4_isWritten, cX4_isWritten, 2, (Option.some Jvm.ClassFile.FieldType.boolean), { frames := 3, cells := 0, slots := 0, locals := 64 })
abbrev mX4_grantOf : MI := (yX4_grantOf, cX4_grantOf, 3, (Option.some (Jvm.ClassFile.FieldType.object "LeaseBoard$Grant")), { frames := 3, cells := 0, slots := 0, locals := 64 })
abbrev mX4_grantMeantBy : MI := (yX4_grantMeantBy, cX4_grantMeantBy, 3, (Option.some (Jvm.ClassFile.FieldType.object "LeaseBoard$Grant")), { frames := 4, cells := 0, slots := 0, locals := 86 })
abbrev mX4_numberAnew : MI := (yX4_numberAnew, cX4_numberAnew, 4, (Option.none : Option Jvm.ClassFile.FieldType), { frames := 0, cells := 0, slots := 0, locals := 0 })
abbrev mX4_dropEnded : MI := (yX4_dropEnded, cX4_dropEnded, 4, (Option.none : Option Jvm.ClassFile.FieldType), { frames := 3, cells := 0, slots := 0, locals := 96 })
abbrev mX4_dropGrantOf : MI := (yX4_dropGrantOf, cX4_dropGrantOf, 3, (Option.none : Option Jvm.ClassFile.FieldType), { frames := 3, cells := 0, slots := 0, locals := 96 })
abbrev mX4_prolongAll : MI := (yX4_prolongAll, cX4_prolongAll, 4, (Option.none : Option Jvm.ClassFile.FieldType), { frames := 3, cells := 0, slots := 0, locals := 64 })
abbrev mX5_init : MI := (yX5_init, cX5_init, 3, (Option.none : Option Jvm.ClassFile.FieldType), { frames := 1, cells := 0, slots := 0, locals := 20 })
abbrev mX5_shows : MI := (yX5_shows, cX5_shows, 2, (Option.some Jvm.ClassFile.FieldType.long), { frames := 0, cells := 0, slots := 0, locals := 0 })
abbrev mX6_init : MI := (yX6_init, cX6_init, 3, (Option.none : Option Jvm.ClassFile.FieldType), { frames := 5, cells := 1, slots := 3, locals := 103 })
abbrev mX6_mayBeAsked : MI := (yX6_mayBeAsked, cX6_mayBeAsked, 3, (Option.some Jvm.ClassFile.FieldType.boolean), { frames := 0, cells := 0, slots := 0, locals := 0 })
abbrev mX6_fits : MI := (yX6_fits, cX6_fits, 4, (Option.some Jvm.ClassFile.FieldType.boolean), { frames := 4, cells := 0, slots := 0, locals := 85 })
abbrev mX6_dropLoneRiser : MI := (yX6_dropLoneRiser, cX6_dropLoneRiser, 1, (Option.none : Option Jvm.ClassFile.FieldType), { frames := 4, cells := 0, slots := 0, locals := 86 })
abbrev mX7_init : MI := (yX7_init, cX7_init, 4, (Option.none : Option Jvm.ClassFile.FieldType), { frames := 5, cells := 1, slots := 3, locals := 103 })
abbrev mX7_mayBeAsked : MI := (yX7_mayBeAsked, cX7_mayBeAsked, 3, (Option.some Jvm.ClassFile.FieldType.boolean), { frames := 0, cells := 0, slots := 0, locals := 0 })
abbrev mX7_fits : MI := (yX7_fits, cX7_fits, 4, (Option.some Jvm.ClassFile.FieldType.boolean), { frames := 4, cells := 0, slots := 0, locals := 85 })
abbrev mX8_init : MI := (yX8_init, cX8_init, 1, (Option.none : Option Jvm.ClassFile.FieldType), { frames := 1, cells := 0, slots := 0, locals := 20 })
abbrev mX8_clear : MI := (yX8_clear, cX8_clear, 1, (Option.none : Option Jvm.ClassFile.FieldType), { frames := 0, cells := 0, slots := 0, locals := 0 })
abbrev mX8_isEmpty : MI := (yX8_isEmpty, cX8_isEmpty, 1, (Option.some Jvm.ClassFile.FieldType.boolean), { frames := 0, cells := 0, slots := 0, locals := 0 })
abbrev mX9_init : MI := (yX9_init, cX9_init, 3, (Option.none : Option Jvm.ClassFile.FieldType), { frames := 5, cells := 2, slots := 11, locals := 103 })
abbrev mX9_fits : MI := (yX9_fits, cX9_fits, 4, (Option.some Jvm.ClassFile.FieldType.boolean), { frames := 1, cells := 0, slots := 0, locals := 20 })
abbrev mX9_queuedAt : MI := (yX9_queuedAt, cX9_queuedAt, 2, (Option.some Jvm.ClassFile.FieldType.int), { frames := 0, cells := 0, slots := 0, locals := 0 })
abbrev mX9_isQueued : MI := (yX9_isQueued, cX9_isQueued, 3, (Option.some Jvm.ClassFile.FieldType.boolean), { frames := 0, cells := 0, slots := 0, locals := 0 })
abbrev mX9_isQueueFull : MI := (yX9_isQueueFull, cX9_isQueueFull, 1, (Option.some Jvm.ClassFile.FieldType.boolean), { frames := 0, cells := 0, slots := 0, locals := 0 })
abbrev mX9_join : MI := (yX9_join, cX9_join, 2, (Option.none : Option Jvm.ClassFile.FieldType), { frames := 0, cells := 0, slots := 0, locals := 0 })
abbrev mX9_dropFirst : MI := (yX9_dropFirst, cX9_dropFirst, 2, (Option.none : Option Jvm.ClassFile.FieldType), { frames := 0, cells := 0, slots := 0, locals := 0 })
abbrev mX9_dropLateFirst : MI := (yX9_dropLateFirst, cX9_dropLateFirst, 3, (Option.none : Option Jvm.ClassFile.FieldType), { frames := 1, cells := 0, slots := 0, locals := 21 })
abbrev mX9_isFirstDue : MI := (yX9_isFirstDue, cX9_isFirstDue, 1, (Option.some Jvm.ClassFile.FieldType.boolean), { frames := 1, cells := 0, slots := 0, locals := 20 })
abbrev mX9_callFirst : MI := (yX9_callFirst, cX9_callFirst, 3, (Option.none : Option Jvm.ClassFile.FieldType), { frames := 0, cells := 0, slots := 0, locals := 0 })
abbrev mX10_init : MI := (yX10_init, cX10_init, 4, (Option.none : Option Jvm.ClassFile.FieldType), { frames := 2, cells := 21, slots := 140, locals := 42 })
abbrev mX10_memoryOf : MI := (yX10_memoryOf, cX10_memoryOf, 2, (Option.some (Jvm.ClassFile.FieldType.object "LeaseBoard$Memory")), { frames := 0, cells := 0, slots := 0, locals := 0 })
abbrev mX11_init : MI := (yX11_init, cX11_init, 3, (Option.none : Option Jvm.ClassFile.FieldType), { frames := 4, cells := 25, slots := 294, locals := 80 })
abbrev mX11_keeper : MI := (yX11_keeper, cX11_keeper, 3, (Option.some Jvm.ClassFile.FieldType.int), { frames := 7, cells := 2, slots := 603, locals := 181 })
abbrev mX11_worker : MI := (yX11_worker, cX11_worker, 3, (Option.some Jvm.ClassFile.FieldType.int), { frames := 7, cells := 23, slots := 745, locals := 181 })
abbrev mX11_thing : MI := (yX11_thing, cX11_thing, 6, (Option.some Jvm.ClassFile.FieldType.int), { frames := 8, cells := 4, slots := 620, locals := 181 })
abbrev mX11_store : MI := (yX11_store, cX11_store, 1, (Option.some Jvm.ClassFile.FieldType.int), { frames := 0, cells := 0, slots := 0, locals := 0 })
abbrev mX11_tick : MI := (yX11_tick, cX11_tick, 2, (Option.some Jvm.ClassFile.FieldType.int), { frames := 1, cells := 0, slots := 0, locals := 22 })
abbrev mX11_clock : MI := (yX11_clock, cX11_clock, 4, (Option.some Jvm.ClassFile.FieldType.long), { frames := 5, cells := 0, slots := 0, locals := 107 })
abbrev mX11_wake : MI := (yX11_wake, cX11_wake, 6, (Option.some Jvm.ClassFile.FieldType.int), { frames := 5, cells := 0, slots := 0, locals := 107 })
abbrev mX11_fall : MI := (yX11_fall, cX11_fall, 6, (Option.some Jvm.ClassFile.FieldType.int), { frames := 4, cells := 0, slots := 0, locals := 85 })
abbrev mX11_lead : MI := (yX11_lead, cX11_lead, 3, (Option.some Jvm.ClassFile.FieldType.int), { frames := 5, cells := 0, slots := 0, locals := 112 })
abbrev mX11_ask : MI := (yX11_ask, cX11_ask, 9, (Option.some Jvm.ClassFile.FieldType.int), { frames := 9, cells := 2, slots := 610, locals := 225 })
abbrev mX11_renew : MI := (yX11_renew, cX11_renew, 7, (Option.some Jvm.ClassFile.FieldType.int), { frames := 9, cells := 2, slots := 610, locals := 225 })
abbrev mX11_end : MI := (yX11_end, cX11_end, 7, (Option.some Jvm.ClassFile.FieldType.int), { frames := 8, cells := 2, slots := 610, locals := 202 })
abbrev mX11_rise : MI := (yX11_rise, cX11_rise, 7, (Option.some Jvm.ClassFile.FieldType.int), { frames := 9, cells := 2, slots := 610, locals := 225 })
abbrev mX11_deliver : MI := (yX11_deliver, cX11_deliver, 3, (Option.some Jvm.ClassFile.FieldType.int), { frames := 12, cells := 6, slots := 1825, locals := 301 })
abbrev mX11_lose : MI := (yX11_lose, cX11_lose, 3, (Option.some Jvm.ClassFile.FieldType.int), { frames := 4, cells := 0, slots := 0, locals := 85 })
abbrev mX11_twice : MI := (yX11_twice, cX11_twice, 4, (Option.some Jvm.ClassFile.FieldType.int), { frames := 8, cells := 2, slots := 610, locals := 202 })
abbrev mX11_letter : MI := (yX11_letter, cX11_letter, 4, (Option.some Jvm.ClassFile.FieldType.int), { frames := 4, cells := 0, slots := 0, locals := 85 })
abbrev mX11_wrote : MI := (yX11_wrote, cX11_wrote, 4, (Option.some Jvm.ClassFile.FieldType.long), { frames := 4, cells := 0, slots := 0, locals := 85 })
abbrev mX11_look : MI := (yX11_look, cX11_look, 4, (Option.some Jvm.ClassFile.FieldType.int), { frames := 9, cells := 2, slots := 610, locals := 227 })
abbrev mX11_grant : MI := (yX11_grant, cX11_grant, 5, (Option.some Jvm.ClassFile.FieldType.int), { frames := 5, cells := 0, slots := 0, locals := 108 })
abbrev mX11_ends : MI := (yX11_ends, cX11_ends, 5, (Option.some Jvm.ClassFile.FieldType.long), { frames := 5, cells := 0, slots := 0, locals := 108 })
abbrev mX11_told : MI := (yX11_told, cX11_told, 5, (Option.some Jvm.ClassFile.FieldType.int), { frames := 7, cells := 0, slots := 0, locals := 155 })
abbrev mX11_holds : MI := (yX11_holds, cX11_holds, 5, (Option.some Jvm.ClassFile.FieldType.int), { frames := 6, cells := 0, slots := 0, locals := 132 })
abbrev mX11_held : MI := (yX11_held, cX11_held, 5, (Option.some Jvm.ClassFile.FieldType.long), { frames := 5, cells := 0, slots := 0, locals := 108 })
abbrev mX11_write : MI := (yX11_write, cX11_write, 8, (Option.some Jvm.ClassFile.FieldType.int), { frames := 5, cells := 0, slots := 0, locals := 108 })
abbrev mX11_stored : MI := (yX11_stored, cX11_stored, 4, (Option.some Jvm.ClassFile.FieldType.long), { frames := 5, cells := 0, slots := 0, locals := 107 })
abbrev mX11_count : MI := (yX11_count, cX11_count, 2, (Option.some Jvm.ClassFile.FieldType.int), { frames := 8, cells := 0, slots := 0, locals := 181 })
abbrev mX11_put : MI := (yX11_put, cX11_put, 5, (Option.some Jvm.ClassFile.FieldType.int), { frames := 7, cells := 1, slots := 20, locals := 155 })
abbrev mX11_forge : MI := (yX11_forge, cX11_forge, 5, (Option.some Jvm.ClassFile.FieldType.int), { frames := 3, cells := 0, slots := 0, locals := 68 })
abbrev mX11_status : MI := (yX11_status, cX11_status, 1, (Option.some Jvm.ClassFile.FieldType.int), { frames := 0, cells := 0, slots := 0, locals := 0 })
abbrev mX11_isWithin : MI := (yX11_isWithin, cX11_isWithin, 3, (Option.some Jvm.ClassFile.FieldType.boolean), { frames := 0, cells := 0, slots := 0, locals := 0 })
abbrev mX11_isClock : MI := (yX11_isClock, cX11_isClock, 3, (Option.some Jvm.ClassFile.FieldType.boolean), { frames := 1, cells := 0, slots := 0, locals := 22 })
abbrev mX11_isStored : MI := (yX11_isStored, cX11_isStored, 3, (Option.some Jvm.ClassFile.FieldType.boolean), { frames := 4, cells := 0, slots := 0, locals := 85 })
abbrev mX11_keeperAt : MI := (yX11_keeperAt, cX11_keeperAt, 2, (Option.some (Jvm.ClassFile.FieldType.object "LeaseBoard$Party")), { frames := 3, cells := 0, slots := 0, locals := 64 })
abbrev mX11_workerAt : MI := (yX11_workerAt, cX11_workerAt, 2, (Option.some (Jvm.ClassFile.FieldType.object "LeaseBoard$Worker")), { frames := 3, cells := 0, slots := 0, locals := 64 })
abbrev mX11_partyAt : MI := (yX11_partyAt, cX11_partyAt, 3, (Option.some (Jvm.ClassFile.FieldType.object "LeaseBoard$Party")), { frames := 4, cells := 0, slots := 0, locals := 85 })
abbrev mX11_thingAt : MI := (yX11_thingAt, cX11_thingAt, 2, (Option.some (Jvm.ClassFile.FieldType.object "LeaseBoard$Only")), { frames := 3, cells := 0, slots := 0, locals := 64 })
abbrev mX11_letterAt : MI := (yX11_letterAt, cX11_letterAt, 2, (Option.some (Jvm.ClassFile.FieldType.object "LeaseBoard$Letter")), { frames := 3, cells := 0, slots := 0, locals := 64 })
abbrev mX11_grantAt : MI := (yX11_grantAt, cX11_grantAt, 4, (Option.some (Jvm.ClassFile.FieldType.object "LeaseBoard$Grant")), { frames := 4, cells := 0, slots := 0, locals := 85 })
abbrev mX11_memoryAt : MI := (yX11_memoryAt, cX11_memoryAt, 4, (Option.some (Jvm.ClassFile.FieldType.object "LeaseBoard$Memory")), { frames := 4, cells := 0, slots := 0, locals := 85 })
abbrev mX11_trayAt : MI := (yX11_trayAt, cX11_trayAt, 2, (Option.some (Jvm.ClassFile.FieldType.object "LeaseBoard$Tray")), { frames := 1, cells := 0, slots := 0, locals := 22 })
abbrev mX11_newThing : MI := (yX11_newThing, cX11_newThing, 5, (Option.some (Jvm.ClassFile.FieldType.object "LeaseBoard$Only")), { frames := 7, cells := 3, slots := 20, locals := 149 })
abbrev mX11_divideUp : MI := (yX11_divideUp, cX11_divideUp, 2, (Option.some Jvm.ClassFile.FieldType.int), { frames := 0, cells := 0, slots := 0, locals := 0 })
abbrev mX11_keepersAwake : MI := (yX11_keepersAwake, cX11_keepersAwake, 3, (Option.some Jvm.ClassFile.FieldType.int), { frames := 3, cells := 0, slots := 0, locals := 64 })
abbrev mX11_areMostAwake : MI := (yX11_areMostAwake, cX11_areMostAwake, 1, (Option.some Jvm.ClassFile.FieldType.boolean), { frames := 4, cells := 0, slots := 0, locals := 86 })
abbrev mX11_ableLeader : MI := (yX11_ableLeader, cX11_ableLeader, 1, (Option.some (Jvm.ClassFile.FieldType.object "LeaseBoard$Party")), { frames := 5, cells := 0, slots := 0, locals := 106 })
abbrev mX11_prolongBoard : MI := (yX11_prolongBoard, cX11_prolongBoard, 6, (Option.none : Option Jvm.ClassFile.FieldType), { frames := 4, cells := 0, slots := 0, locals := 87 })
abbrev mX11_hasRoomFor : MI := (yX11_hasRoomFor, cX11_hasRoomFor, 2, (Option.some Jvm.ClassFile.FieldType.boolean), { frames := 1, cells := 0, slots := 0, locals := 20 })
abbrev mX11_send : MI := (yX11_send, cX11_send, 2, (Option.some Jvm.ClassFile.FieldType.int), { frames := 7, cells := 1, slots := 600, locals := 181 })
abbrev mX11_sendMarked : MI := (yX11_sendMarked, cX11_sendMarked, 4, (Option.some Jvm.ClassFile.FieldType.int), { frames := 8, cells := 1, slots := 600, locals := 202 })
abbrev mX11_refusalToHolder : MI := (yX11_refusalToHolder, cX11_refusalToHolder, 6, (Option.some Jvm.ClassFile.FieldType.int), { frames := 5, cells := 0, slots := 0, locals := 108 })
abbrev mX11_answerGrant : MI := (yX11_answerGrant, cX11_answerGrant, 4, (Option.none : Option Jvm.ClassFile.FieldType), { frames := 8, cells := 2, slots := 610, locals := 202 })
abbrev mX11_answerRefusal : MI := (yX11_answerRefusal, cX11_answerRefusal, 3, (Option.none : Option Jvm.ClassFile.FieldType), { frames := 8, cells := 2, slots := 610, locals := 202 })
abbrev mX11_answerLate : MI := (yX11_answerLate, cX11_answerLate, 3, (Option.none : Option Jvm.ClassFile.FieldType), { frames := 8, cells := 2, slots := 610, locals := 202 })
abbrev mX11_reachKeeper : MI := (yX11_reachKeeper, cX11_reachKeeper, 6, (Option.some Jvm.ClassFile.FieldType.int), { frames := 11, cells := 6, slots := 1825, locals := 276 })
abbrev mX11_lookAt : MI := (yX11_lookAt, cX11_lookAt, 6, (Option.none : Option Jvm.ClassFile.FieldType), { frames := 8, cells := 2, slots := 610, locals := 202 })
abbrev mX11_hearAsk : MI := (yX11_hearAsk, cX11_hearAsk, 6, (Option.none : Option Jvm.ClassFile.FieldType), { frames := 10, cells := 4, slots := 1215, locals := 251 })
abbrev mX11_grantAsAsked : MI := (yX11_grantAsAsked, cX11_grantAsAsked, 7, (Option.none : Option Jvm.ClassFile.FieldType), { frames := 9, cells := 4, slots := 1215, locals := 225 })
abbrev mX11_waitOrRefuse : MI := (yX11_waitOrRefuse, cX11_waitOrRefuse, 3, (Option.none : Option Jvm.ClassFile.FieldType), { frames := 9, cells := 2, slots := 610, locals := 224 })
abbrev mX11_hearRenew : MI := (yX11_hearRenew, cX11_hearRenew, 6, (Option.none : Option Jvm.ClassFile.FieldType), { frames := 9, cells := 2, slots := 610, locals := 225 })
abbrev mX11_hearEnd : MI := (yX11_hearEnd, cX11_hearEnd, 5, (Option.none : Option Jvm.ClassFile.FieldType), { frames := 9, cells := 2, slots := 610, locals := 227 })
abbrev mX11_hearRise : MI := (yX11_hearRise, cX11_hearRise, 7, (Option.none : Option Jvm.ClassFile.FieldType), { frames := 10, cells := 2, slots := 610, locals := 250 })
abbrev mX11_riseReader : MI := (yX11_riseReader, cX11_riseReader, 6, (Option.none : Option Jvm.ClassFile.FieldType), { frames := 9, cells := 2, slots := 610, locals := 225 })
abbrev mX11_giveNumber : MI := (yX11_giveNumber, cX11_giveNumber, 5, (Option.none : Option Jvm.ClassFile.FieldType), { frames := 1, cells := 0, slots := 0, locals := 23 })
abbrev mX11_reachWorker : MI := (yX11_reachWorker, cX11_reachWorker, 5, (Option.some Jvm.ClassFile.FieldType.int), { frames := 5, cells := 0, slots := 0, locals := 108 })
abbrev mX11_hearGrant : MI := (yX11_hearGrant, cX11_hearGrant, 7, (Option.none : Option Jvm.ClassFile.FieldType), { frames := 1, cells := 0, slots := 0, locals := 23 })
abbrev mX11_hearRefusal : MI := (yX11_hearRefusal, cX11_hearRefusal, 2, (Option.none : Option Jvm.ClassFile.FieldType), { frames := 0, cells := 0, slots := 0, locals := 0 })
abbrev mX11_hearLate : MI := (yX11_hearLate, cX11_hearLate, 2, (Option.none : Option Jvm.ClassFile.FieldType), { frames := 0, cells := 0, slots := 0, locals := 0 })
abbrev mX11_mayUse : MI := (yX11_mayUse, cX11_mayUse, 5, (Option.some Jvm.ClassFile.FieldType.boolean), { frames := 5, cells := 0, slots := 0, locals := 108 })
abbrev mX11_usersOf : MI := (yX11_usersOf, cX11_usersOf, 4, (Option.some Jvm.ClassFile.FieldType.int), { frames := 6, cells := 0, slots := 0, locals := 132 })
abbrev mX11_thingsInClash : MI := (yX11_thingsInClash, cX11_thingsInClash, 3, (Option.some Jvm.ClassFile.FieldType.int), { frames := 7, cells := 0, slots := 0, locals := 159 })
abbrev mX11_isInClash : MI := (yX11_isInClash, cX11_isInClash, 8, (Option.some Jvm.ClassFile.FieldType.boolean), { frames := 6, cells := 0, slots := 0, locals := 132 })
abbrev mX11_lettersUnderWay : MI := (yX11_lettersUnderWay, cX11_lettersUnderWay, 3, (Option.some Jvm.ClassFile.FieldType.int), { frames := 3, cells := 0, slots := 0, locals := 64 })
abbrev mX11_refuse : MI := (yX11_refuse, cX11_refuse, 2, (Option.some Jvm.ClassFile.FieldType.int), { frames := 0, cells := 0, slots := 0, locals := 0 })
abbrev mX11_canBePut : MI := (yX11_canBePut, cX11_canBePut, 3, (Option.some Jvm.ClassFile.FieldType.boolean), { frames := 4, cells := 0, slots := 0, locals := 85 })
abbrev mX11_numbersOf : MI := (yX11_numbersOf, cX11_numbersOf, 5, (Option.some (Jvm.ClassFile.FieldType.array Jvm.ClassFile.FieldType.long)), { frames := 4, cells := 1, slots := 20, locals := 85 })
abbrev mX11_truthsOf : MI := (yX11_truthsOf, cX11_truthsOf, 4, (Option.some (Jvm.ClassFile.FieldType.array Jvm.ClassFile.FieldType.boolean)), { frames := 6, cells := 1, slots := 20, locals := 132 })
abbrev mX11_isOfKind : MI := (yX11_isOfKind, cX11_isOfKind, 2, (Option.some Jvm.ClassFile.FieldType.boolean), { frames := 0, cells := 0, slots := 0, locals := 0 })
abbrev mX11_refuseSort : MI := (yX11_refuseSort, cX11_refuseSort, 2, (Option.some Jvm.ClassFile.FieldType.int), { frames := 1, cells := 0, slots := 0, locals := 21 })
abbrev mX11_lengthAsKind : MI := (yX11_lengthAsKind, cX11_lengthAsKind, 4, (Option.some Jvm.ClassFile.FieldType.int), { frames := 2, cells := 0, slots := 0, locals := 42 })
abbrev mX11_thingOfLetter : MI := (yX11_thingOfLetter, cX11_thingOfLetter, 4, (Option.some Jvm.ClassFile.FieldType.int), { frames := 2, cells := 0, slots := 0, locals := 42 })
abbrev mX11_numberAt : MI := (yX11_numberAt, cX11_numberAt, 4, (Option.some Jvm.ClassFile.FieldType.int), { frames := 2, cells := 0, slots := 0, locals := 42 })
abbrev mX11_truthAt : MI := (yX11_truthAt, cX11_truthAt, 4, (Option.some Jvm.ClassFile.FieldType.int), { frames := 2, cells := 0, slots := 0, locals := 42 })
abbrev mX11_sumOfCopied : MI := (yX11_sumOfCopied, cX11_sumOfCopied, 7, (Option.some Jvm.ClassFile.FieldType.int), { frames := 2, cells := 0, slots := 0, locals := 42 })
abbrev mX11_lengthLaidAmongShared : MI := (yX11_lengthLaidAmongShared, cX11_lengthLaidAmongShared, 3, (Option.some Jvm.ClassFile.FieldType.int), { frames := 1, cells := 0, slots := 0, locals := 21 })
abbrev mX12_init : MI := (yX12_init, cX12_init, 2, (Option.none : Option Jvm.ClassFile.FieldType), { frames := 1, cells := 44, slots := 9213, locals := 20 })
abbrev mX12_in : MI := (yX12_in, cX12_in, 3, (Option.some Jvm.ClassFile.FieldType.boolean), { frames := 0, cells := 0, slots := 0, locals := 0 })
abbrev mX12_isClock : MI := (yX12_isClock, cX12_isClock, 3, (Option.some Jvm.ClassFile.FieldType.boolean), { frames := 1, cells := 0, slots := 0, locals := 22 })
abbrev mX12_keeper : MI := (yX12_keeper, cX12_keeper, 3, (Option.some Jvm.ClassFile.FieldType.int), { frames := 2, cells := 0, slots := 0, locals := 44 })
abbrev mX12_worker : MI := (yX12_worker, cX12_worker, 3, (Option.some Jvm.ClassFile.FieldType.int), { frames := 2, cells := 0, slots := 0, locals := 44 })
abbrev mX12_thing : MI := (yX12_thing, cX12_thing, 4, (Option.some Jvm.ClassFile.FieldType.int), { frames := 1, cells := 0, slots := 0, locals := 22 })
abbrev mX12_store : MI := (yX12_store, cX12_store, 1, (Option.some Jvm.ClassFile.FieldType.int), { frames := 0, cells := 0, slots := 0, locals := 0 })
abbrev mX12_tick : MI := (yX12_tick, cX12_tick, 2, (Option.some Jvm.ClassFile.FieldType.int), { frames := 1, cells := 0, slots := 0, locals := 22 })
abbrev mX12_isKeeper : MI := (yX12_isKeeper, cX12_isKeeper, 2, (Option.some Jvm.ClassFile.FieldType.boolean), { frames := 1, cells := 0, slots := 0, locals := 22 })
abbrev mX12_isWorker : MI := (yX12_isWorker, cX12_isWorker, 2, (Option.some Jvm.ClassFile.FieldType.boolean), { frames := 1, cells := 0, slots := 0, locals := 22 })
abbrev mX12_isThing : MI := (yX12_isThing, cX12_isThing, 2, (Option.some Jvm.ClassFile.FieldType.boolean), { frames := 1, cells := 0, slots := 0, locals := 22 })
abbrev mX12_isLetter : MI := (yX12_isLetter, cX12_isLetter, 2, (Option.some Jvm.ClassFile.FieldType.boolean), { frames := 1, cells := 0, slots := 0, locals := 22 })
abbrev mX12_kClock : MI := (yX12_kClock, cX12_kClock, 2, (Option.some Jvm.ClassFile.FieldType.long), { frames := 0, cells := 0, slots := 0, locals := 0 })
abbrev mX12_wClock : MI := (yX12_wClock, cX12_wClock, 2, (Option.some Jvm.ClassFile.FieldType.long), { frames := 0, cells := 0, slots := 0, locals := 0 })
abbrev mX12_clock : MI := (yX12_clock, cX12_clock, 3, (Option.some Jvm.ClassFile.FieldType.long), { frames := 2, cells := 0, slots := 0, locals := 43 })
abbrev mX12_long0 : MI := (yX12_long0, cX12_long0, 4, (Option.some Jvm.ClassFile.FieldType.int), { frames := 0, cells := 0, slots := 0, locals := 0 })
abbrev mX12_awake : MI := (yX12_awake, cX12_awake, 3, (Option.some Jvm.ClassFile.FieldType.int), { frames := 0, cells := 0, slots := 0, locals := 0 })
abbrev mX12_isMost : MI := (yX12_isMost, cX12_isMost, 1, (Option.some Jvm.ClassFile.FieldType.boolean), { frames := 1, cells := 0, slots := 0, locals := 22 })
abbrev mX12_wake : MI := (yX12_wake, cX12_wake, 5, (Option.some Jvm.ClassFile.FieldType.int), { frames := 2, cells := 0, slots := 0, locals := 43 })
abbrev mX12_fall : MI := (yX12_fall, cX12_fall, 4, (Option.some Jvm.ClassFile.FieldType.int), { frames := 2, cells := 0, slots := 0, locals := 43 })
abbrev mX12_lead : MI := (yX12_lead, cX12_lead, 6, (Option.some Jvm.ClassFile.FieldType.int), { frames := 2, cells := 0, slots := 0, locals := 43 })
abbrev mX12_send : MI := (yX12_send, cX12_send, 6, (Option.some Jvm.ClassFile.FieldType.int), { frames := 0, cells := 0, slots := 0, locals := 0 })
abbrev mX12_areThere : MI := (yX12_areThere, cX12_areThere, 4, (Option.some Jvm.ClassFile.FieldType.boolean), { frames := 2, cells := 0, slots := 0, locals := 43 })
abbrev mX12_marked : MI := (yX12_marked, cX12_marked, 10, (Option.some Jvm.ClassFile.FieldType.int), { frames := 1, cells := 0, slots := 0, locals := 25 })
abbrev mX12_ask : MI := (yX12_ask, cX12_ask, 8, (Option.some Jvm.ClassFile.FieldType.int), { frames := 3, cells := 0, slots := 0, locals := 66 })
abbrev mX12_renew : MI := (yX12_renew, cX12_renew, 5, (Option.some Jvm.ClassFile.FieldType.int), { frames := 3, cells := 0, slots := 0, locals := 66 })
abbrev mX12_end : MI := (yX12_end, cX12_end, 6, (Option.some Jvm.ClassFile.FieldType.int), { frames := 3, cells := 0, slots := 0, locals := 66 })
abbrev mX12_rise : MI := (yX12_rise, cX12_rise, 5, (Option.some Jvm.ClassFile.FieldType.int), { frames := 3, cells := 0, slots := 0, locals := 66 })
abbrev mX12_lose : MI := (yX12_lose, cX12_lose, 2, (Option.some Jvm.ClassFile.FieldType.int), { frames := 2, cells := 0, slots := 0, locals := 43 })
abbrev mX12_twice : MI := (yX12_twice, cX12_twice, 3, (Option.some Jvm.ClassFile.FieldType.int), { frames := 2, cells := 0, slots := 0, locals := 43 })
abbrev mX12_letter : MI := (yX12_letter, cX12_letter, 3, (Option.some Jvm.ClassFile.FieldType.int), { frames := 2, cells := 0, slots := 0, locals := 43 })
abbrev mX12_wrote : MI := (yX12_wrote, cX12_wrote, 3, (Option.some Jvm.ClassFile.FieldType.long), { frames := 2, cells := 0, slots := 0, locals := 43 })
abbrev mX12_grantOf : MI := (yX12_grantOf, cX12_grantOf, 4, (Option.some Jvm.ClassFile.FieldType.int), { frames := 0, cells := 0, slots := 0, locals := 0 })
abbrev mX12_goes : MI := (yX12_goes, cX12_goes, 5, (Option.none : Option Jvm.ClassFile.FieldType), { frames := 0, cells := 0, slots := 0, locals := 0 })
abbrev mX12_unqueue : MI := (yX12_unqueue, cX12_unqueue, 4, (Option.none : Option Jvm.ClassFile.FieldType), { frames := 0, cells := 0, slots := 0, locals := 0 })
abbrev mX12_queuedAt : MI := (yX12_queuedAt, cX12_queuedAt, 4, (Option.some Jvm.ClassFile.FieldType.int), { frames := 0, cells := 0, slots := 0, locals := 0 })
abbrev mX12_looks : MI := (yX12_looks, cX12_looks, 5, (Option.none : Option Jvm.ClassFile.FieldType), { frames := 1, cells := 0, slots := 0, locals := 25 })
abbrev mX12_isWritten : MI := (yX12_isWritten, cX12_isWritten, 4, (Option.some Jvm.ClassFile.FieldType.boolean), { frames := 0, cells := 0, slots := 0, locals := 0 })
abbrev mX12_partsOf : MI := (yX12_partsOf, cX12_partsOf, 4, (Option.some Jvm.ClassFile.FieldType.int), { frames := 0, cells := 0, slots := 0, locals := 0 })
abbrev mX12_fits : MI := (yX12_fits, cX12_fits, 5, (Option.some Jvm.ClassFile.FieldType.boolean), { frames := 1, cells := 0, slots := 0, locals := 23 })
abbrev mX12_granted : MI := (yX12_granted, cX12_granted, 3, (Option.none : Option Jvm.ClassFile.FieldType), { frames := 1, cells := 0, slots := 0, locals := 23 })
abbrev mX12_answers : MI := (yX12_answers, cX12_answers, 4, (Option.some Jvm.ClassFile.FieldType.int), { frames := 1, cells := 0, slots := 0, locals := 25 })
abbrev mX12_refuses : MI := (yX12_refuses, cX12_refuses, 2, (Option.none : Option Jvm.ClassFile.FieldType), { frames := 2, cells := 0, slots := 0, locals := 48 })
abbrev mX12_isLate : MI := (yX12_isLate, cX12_isLate, 3, (Option.none : Option Jvm.ClassFile.FieldType), { frames := 2, cells := 0, slots := 0, locals := 48 })
abbrev mX12_grants : MI := (yX12_grants, cX12_grants, 5, (Option.none : Option Jvm.ClassFile.FieldType), { frames := 2, cells := 0, slots := 0, locals := 48 })
abbrev mX12_asks : MI := (yX12_asks, cX12_asks, 6, (Option.none : Option Jvm.ClassFile.FieldType), { frames := 3, cells := 0, slots := 0, locals := 72 })
abbrev mX12_meant : MI := (yX12_meant, cX12_meant, 3, (Option.some Jvm.ClassFile.FieldType.int), { frames := 1, cells := 0, slots := 0, locals := 23 })
abbrev mX12_prolongs : MI := (yX12_prolongs, cX12_prolongs, 4, (Option.none : Option Jvm.ClassFile.FieldType), { frames := 3, cells := 0, slots := 0, locals := 72 })
abbrev mX12_rises : MI := (yX12_rises, cX12_rises, 5, (Option.none : Option Jvm.ClassFile.FieldType), { frames := 4, cells := 0, slots := 0, locals := 95 })
abbrev mX12_toKeeper : MI := (yX12_toKeeper, cX12_toKeeper, 4, (Option.none : Option Jvm.ClassFile.FieldType), { frames := 5, cells := 0, slots := 0, locals := 119 })
abbrev mX12_toWorker : MI := (yX12_toWorker, cX12_toWorker, 7, (Option.none : Option Jvm.ClassFile.FieldType), { frames := 1, cells := 0, slots := 0, locals := 21 })
abbrev mX12_deliver : MI := (yX12_deliver, cX12_deliver, 3, (Option.some Jvm.ClassFile.FieldType.int), { frames := 6, cells := 0, slots := 0, locals := 142 })
abbrev mX12_look : MI := (yX12_look, cX12_look, 2, (Option.some Jvm.ClassFile.FieldType.int), { frames := 2, cells := 0, slots := 0, locals := 49 })
abbrev mX12_grant : MI := (yX12_grant, cX12_grant, 5, (Option.some Jvm.ClassFile.FieldType.int), { frames := 2, cells := 0, slots := 0, locals := 43 })
abbrev mX12_ends : MI := (yX12_ends, cX12_ends, 4, (Option.some Jvm.ClassFile.FieldType.long), { frames := 2, cells := 0, slots := 0, locals := 43 })
abbrev mX12_may : MI := (yX12_may, cX12_may, 3, (Option.some Jvm.ClassFile.FieldType.boolean), { frames := 1, cells := 0, slots := 0, locals := 21 })
abbrev mX12_mays : MI := (yX12_mays, cX12_mays, 4, (Option.some Jvm.ClassFile.FieldType.int), { frames := 2, cells := 0, slots := 0, locals := 43 })
abbrev mX12_told : MI := (yX12_told, cX12_told, 3, (Option.some Jvm.ClassFile.FieldType.int), { frames := 3, cells := 0, slots := 0, locals := 66 })
abbrev mX12_holds : MI := (yX12_holds, cX12_holds, 5, (Option.some Jvm.ClassFile.FieldType.int), { frames := 2, cells := 0, slots := 0, locals := 43 })
abbrev mX12_held : MI := (yX12_held, cX12_held, 4, (Option.some Jvm.ClassFile.FieldType.long), { frames := 2, cells := 0, slots := 0, locals := 43 })
abbrev mX12_isStore : MI := (yX12_isStore, cX12_isStore, 2, (Option.some Jvm.ClassFile.FieldType.boolean), { frames := 1, cells := 0, slots := 0, locals := 22 })
abbrev mX12_write : MI := (yX12_write, cX12_write, 8, (Option.some Jvm.ClassFile.FieldType.int), { frames := 2, cells := 0, slots := 0, locals := 43 })
abbrev mX12_stored : MI := (yX12_stored, cX12_stored, 4, (Option.some Jvm.ClassFile.FieldType.long), { frames := 2, cells := 0, slots := 0, locals := 43 })
abbrev mX12_underWay : MI := (yX12_underWay, cX12_underWay, 3, (Option.some Jvm.ClassFile.FieldType.int), { frames := 0, cells := 0, slots := 0, locals := 0 })
abbrev mX12_clashes : MI := (yX12_clashes, cX12_clashes, 5, (Option.some Jvm.ClassFile.FieldType.boolean), { frames := 3, cells := 0, slots := 0, locals := 66 })
abbrev mX12_count : MI := (yX12_count, cX12_count, 4, (Option.some Jvm.ClassFile.FieldType.int), { frames := 4, cells := 0, slots := 0, locals := 90 })
abbrev mX12_done : MI := (yX12_done, cX12_done, 2, (Option.some Jvm.ClassFile.FieldType.int), { frames := 0, cells := 0, slots := 0, locals := 0 })
abbrev mX12_refuse : MI := (yX12_refuse, cX12_refuse, 2, (Option.some Jvm.ClassFile.FieldType.int), { frames := 0, cells := 0, slots := 0, locals := 0 })
abbrev mX12_put : MI := (yX12_put, cX12_put, 6, (Option.some Jvm.ClassFile.FieldType.int), { frames := 2, cells := 0, slots := 0, locals := 43 })
abbrev mX12_isUnder : MI := (yX12_isUnder, cX12_isUnder, 2, (Option.some Jvm.ClassFile.FieldType.boolean), { frames := 0, cells := 0, slots := 0, locals := 0 })
abbrev mX12_asThing : MI := (yX12_asThing, cX12_asThing, 5, (Option.some Jvm.ClassFile.FieldType.int), { frames := 1, cells := 0, slots := 0, locals := 21 })
abbrev mX12_asLetter : MI := (yX12_asLetter, cX12_asLetter, 4, (Option.some Jvm.ClassFile.FieldType.int), { frames := 1, cells := 0, slots := 0, locals := 21 })
abbrev mX12_asRow : MI := (yX12_asRow, cX12_asRow, 4, (Option.some Jvm.ClassFile.FieldType.int), { frames := 1, cells := 0, slots := 0, locals := 22 })
abbrev mX12_copied : MI := (yX12_copied, cX12_copied, 6, (Option.some Jvm.ClassFile.FieldType.int), { frames := 1, cells := 0, slots := 0, locals := 21 })
abbrev mX12_laid : MI := (yX12_laid, cX12_laid, 3, (Option.some Jvm.ClassFile.FieldType.int), { frames := 1, cells := 0, slots := 0, locals := 21 })
abbrev mX12_forge : MI := (yX12_forge, cX12_forge, 4, (Option.some Jvm.ClassFile.FieldType.int), { frames := 2, cells := 0, slots := 0, locals := 46 })
abbrev mX12_status : MI := (yX12_status, cX12_status, 1, (Option.some Jvm.ClassFile.FieldType.int), { frames := 0, cells := 0, slots := 0, locals := 0 })
abbrev mJ9_floorMod_7cf53 : MI := (yJ9_floorMod_7cf53, cJ9_floorMod_7cf53, 3, (Option.some Jvm.ClassFile.FieldType.int), { frames := 0, cells := 0, slots := 0, locals := 0 })
abbrev mJ9_max_7cf53 : MI := (yJ9_max_7cf53, cJ9_max_7cf53, 2, (Option.some Jvm.ClassFile.FieldType.int), { frames := 0, cells := 0, slots := 0, locals := 0 })
abbrev mJ9_min_7cf53 : MI := (yJ9_min_7cf53, cJ9_min_7cf53, 2, (Option.some Jvm.ClassFile.FieldType.int), { frames := 0, cells := 0, slots := 0, locals := 0 })
abbrev mJxa1e45_init_da8c8 : MI := (yJxa1e45_init_da8c8, cJxa1e45_init_da8c8, 1, (Option.none : Option Jvm.ClassFile.FieldType), { frames := 1, cells := 0, slots := 0, locals := 20 })
abbrev mJxc12de_init_da8c8 : MI := (yJxc12de_init_da8c8, cJxc12de_init_da8c8, 1, (Option.none : Option Jvm.ClassFile.FieldType), { frames := 2, cells := 0, slots := 0, locals := 40 })
abbrev mJx4a65c_init_da8c8 : MI := (yJx4a65c_init_da8c8, cJx4a65c_init_da8c8, 1, (Option.none : Option Jvm.ClassFile.FieldType), { frames := 3, cells := 0, slots := 0, locals := 60 })
abbrev mJx4a65c_grow_92f84 : MI := (yJx4a65c_grow_92f84, cJx4a65c_grow_92f84, 4, (Option.some (Jvm.ClassFile.FieldType.array (Jvm.ClassFile.FieldType.object "java/lang/Object"))), { frames := 3, cells := 1, slots := 600, locals := 94 })
abbrev mJx4a65c_grow_d5877 : MI := (yJx4a65c_grow_d5877, cJx4a65c_grow_d5877, 1, (Option.some (Jvm.ClassFile.FieldType.array (Jvm.ClassFile.FieldType.object "java/lang/Object"))), { frames := 4, cells := 1, slots := 600, locals := 117 })
abbrev mJx4a65c_size_8abf5 : MI := (yJx4a65c_size_8abf5, cJx4a65c_size_8abf5, 1, (Option.some Jvm.ClassFile.FieldType.int), { frames := 0, cells := 0, slots := 0, locals := 0 })
abbrev mJx4a65c_isEmpty_aae02 : MI := (yJx4a65c_isEmpty_aae02, cJx4a65c_isEmpty_aae02, 1, (Option.some Jvm.ClassFile.FieldType.boolean), { frames := 0, cells := 0, slots := 0, locals := 0 })
abbrev mJx4a65c_elementData_915e3 : MI := (yJx4a65c_elementData_915e3, cJx4a65c_elementData_915e3, 2, (Option.some (Jvm.ClassFile.FieldType.object "java/lang/Object")), { frames := 0, cells := 0, slots := 0, locals := 0 })
abbrev mJx4a65c_get_915e3 : MI := (yJx4a65c_get_915e3, cJx4a65c_get_915e3, 2, (Option.some (Jvm.ClassFile.FieldType.object "java/lang/Object")), { frames := 2, cells := 0, slots := 0, locals := 43 })
abbrev mJx4a65c_add_72be8 : MI := (yJx4a65c_add_72be8, cJx4a65c_add_72be8, 4, (Option.none : Option Jvm.ClassFile.FieldType), { frames := 5, cells := 1, slots := 600, locals := 137 })
abbrev mJx4a65c_add_9ea2d : MI := (yJx4a65c_add_9ea2d, cJx4a65c_add_9ea2d, 2, (Option.some Jvm.ClassFile.FieldType.boolean), { frames := 6, cells := 1, slots := 600, locals := 160 })
abbrev mJx4a65c_remove_915e3 : MI := (yJx4a65c_remove_915e3, cJx4a65c_remove_915e3, 4, (Option.some (Jvm.ClassFile.FieldType.object "java/lang/Object")), { frames := 2, cells := 0, slots := 0, locals := 73 })
abbrev mJx4a65c_fastRemove_b59b0 : MI := (yJx4a65c_fastRemove_b59b0, cJx4a65c_fastRemove_b59b0, 4, (Option.none : Option Jvm.ClassFile.FieldType), { frames := 1, cells := 0, slots := 0, locals := 50 })
abbrev mJ7_copyOf_1904c : MI := (yJ7_copyOf_1904c, cJ7_copyOf_1904c, 2, (Option.some (Jvm.ClassFile.FieldType.array (Jvm.ClassFile.FieldType.object "java/lang/Object"))), { frames := 2, cells := 1, slots := 600, locals := 73 })
abbrev mJ7_copyOf_6403c : MI := (yJ7_copyOf_6403c, cJ7_copyOf_6403c, 4, (Option.some (Jvm.ClassFile.FieldType.array (Jvm.ClassFile.FieldType.object "java/lang/Object"))), { frames := 1, cells := 1, slots := 600, locals := 50 })
abbrev mJ15_checkIndex_7cf53 : MI := (yJ15_checkIndex_7cf53, cJ15_checkIndex_7cf53, 2, (Option.some Jvm.ClassFile.FieldType.int), { frames := 1, cells := 0, slots := 0, locals := 22 })
abbrev mJ8_newLength_cabcc : MI := (yJ8_newLength_cabcc, cJ8_newLength_cabcc, 4, (Option.some Jvm.ClassFile.FieldType.int), { frames := 1, cells := 0, slots := 0, locals := 22 })
abbrev mJ8_hugeLength_7cf53 : MI := (yJ8_hugeLength_7cf53, cJ8_hugeLength_7cf53, 3, (Option.some Jvm.ClassFile.FieldType.int), { frames := 0, cells := 0, slots := 0, locals := 0 })
abbrev mJ3_checkIndex_8e157 : MI := (yJ3_checkIndex_8e157, cJ3_checkIndex_8e157, 3, (Option.some Jvm.ClassFile.FieldType.int), { frames := 0, cells := 0, slots := 0, locals := 0 })
abbrev mL_cell : MI := (yL_cell, cL_cell, 2, (Option.some Jvm.ClassFile.FieldType.int), { frames := 0, cells := 0, slots := 0, locals := 0 })
theorem ob_Jxa1e45_1 : Cond.methodLink RJxa1e45 1 objectInit ∈ lw_tbl ∧ Cond.instanceMethod objectInit ∈ lw_tbl ∧ Cond.code objectInit ⟨#[0xb1]⟩ 1 none ∈ lw_tbl := ⟨w1_42, w1_29, w1_30⟩
theorem ok_Jxa1e45_init_da8c8 : okM mJxa1e45_init_da8c8 0 := ⟨w1_41, w1_2, ⟨by decide, by decide⟩, by decide +kernel⟩
theorem cc_Jxc12de_1 : CI RJxc12de 1 mJxa1e45_init_da8c8 0 := ⟨ok_Jxa1e45_init_da8c8, w1_39, w1_40, rfl, rfl⟩
theorem fl_Jxc12de_7_0 : FL RJxc12de 7 0 0 := ⟨(RJx4a65c, TJx4a65c, 3), "java/util/AbstractList", rfl, by decide, w1_47, Or.inl rfl⟩
theorem ok_Jxc12de_init_da8c8 : okM mJxc12de_init_da8c8 0 := ⟨w1_38, w1_3, ⟨by decide, by decide⟩, by decide +kernel⟩
theorem cc_Jx4a65c_1 : CI RJx4a65c 1 mJxc12de_init_da8c8 0 := ⟨ok_Jxc12de_init_da8c8, w1_36, w1_37, rfl, rfl⟩
theorem fl_Jx4a65c_9_0 : FL RJx4a65c 9 1 0 := ⟨(RJx4a65c, TJx4a65c, 3), "java/util/ArrayList", rfl, by decide, w1_45, Or.inl rfl⟩
theorem ok_J8_newLength_cabcc : okM mJ8_newLength_cabcc 3 := ⟨w1_199, w1_9, ⟨by decide, by decide⟩, by decide +kernel⟩
theorem cs_Jx4a65c_73 : CS RJx4a65c 73 mJ8_newLength_cabcc 3 := ⟨ok_J8_newLength_cabcc, w1_197, w1_198⟩
theorem ok_J7_copyOf_1904c : okM mJ7_copyOf_1904c 2 := ⟨w1_207, w1_10, ⟨by decide, by decide⟩, by decide +kernel⟩
theorem cs_Jx4a65c_66 : CS RJx4a65c 66 mJ7_copyOf_1904c 2 := ⟨ok_J7_copyOf_1904c, w1_205, w1_206⟩
theorem ok_J9_max_7cf53 : okM mJ9_max_7cf53 2 := ⟨w1_66, w1_5, ⟨by decide, by decide⟩, by decide +kernel⟩
theorem cs_Jx4a65c_79 : CS RJx4a65c 79 mJ9_max_7cf53 2 := ⟨ok_J9_max_7cf53, w1_236, w1_65⟩
theorem fl_Jx4a65c_48_0 : FL RJx4a65c 48 2 0 := ⟨(RJx4a65c, TJx4a65c, 3), "java/util/ArrayList", rfl, by decide, w1_46, Or.inl rfl⟩
theorem ok_Jx4a65c_grow_92f84 : okM mJx4a65c_grow_92f84 1 := ⟨w1_196, w1_4, ⟨by decide, by decide⟩, by decide +kernel⟩
theorem cv_Jx4a65c_69_0 : CV RJx4a65c 69 RJx4a65c mJx4a65c_grow_92f84 1 := ⟨ok_Jx4a65c_grow_92f84, w1_193, w1_195, ws_3⟩
theorem ok_J15_checkIndex_7cf53 : okM mJ15_checkIndex_7cf53 2 := ⟨w2_200, w1_19, ⟨by decide, by decide⟩, by decide +kernel⟩
theorem cs_Jx4a65c_118 : CS RJx4a65c 118 mJ15_checkIndex_7cf53 2 := ⟨ok_J15_checkIndex_7cf53, w2_198, w2_199⟩
theorem ok_Jx4a65c_elementData_915e3 : okM mJx4a65c_elementData_915e3 1 := ⟨w2_207, w1_4, ⟨by decide, by decide⟩, by decide +kernel⟩
theorem cv_Jx4a65c_123_0 : CV RJx4a65c 123 RJx4a65c mJx4a65c_elementData_915e3 1 := ⟨ok_Jx4a65c_elementData_915e3, w2_204, w2_205, w2_206⟩
theorem ok_Jx4a65c_grow_d5877 : okM mJx4a65c_grow_d5877 0 := ⟨w1_192, w1_4, ⟨by decide, by decide⟩, by decide +kernel⟩
theorem cv_Jx4a65c_129_0 : CV RJx4a65c 129 RJx4a65c mJx4a65c_grow_d5877 0 := ⟨ok_Jx4a65c_grow_d5877, w1_189, w1_191, ws_2⟩
theorem fl_Jx4a65c_63_0 : FL RJx4a65c 63 0 0 := ⟨(RJx4a65c, TJx4a65c, 3), "java/util/ArrayList", rfl, by decide, w1_48, Or.inr w1_49⟩
theorem ok_Jx4a65c_add_72be8 : okM mJx4a65c_add_72be8 3 := ⟨w1_188, w1_4, ⟨by decide, by decide⟩, by decide +kernel⟩
theorem cv_Jx4a65c_131_0 : CV RJx4a65c 131 RJx4a65c mJx4a65c_add_72be8 3 := ⟨ok_Jx4a65c_add_72be8, w1_185, w1_187, ws_1⟩
theorem ok_Jx4a65c_fastRemove_b59b0 : okM mJx4a65c_fastRemove_b59b0 2 := ⟨w3_183, w1_4, ⟨by decide, by decide⟩, by decide +kernel⟩
theorem cv_Jx4a65c_144_0 : CV RJx4a65c 144 RJx4a65c mJx4a65c_fastRemove_b59b0 2 := ⟨ok_Jx4a65c_fastRemove_b59b0, w3_180, w3_182, ws_21⟩
theorem ac_Jx4a65c_112 : Cond.methodLink RJx4a65c 112 arraycopyName ∈ lw_tbl ∧ Cond.native arraycopyName ∈ lw_tbl ∧ Cond.static arraycopyName ∈ lw_tbl ∧ Cond.initialized "java/lang/System" ∈ lw_tbl := ⟨w3_184, w1_235, w1_234, w1_11⟩
theorem gc_J7_86 : Cond.methodLink RJ7 86 yGetClass ∈ lw_tbl ∧ Cond.declares yGetClass ∈ lw_tbl ∧ Cond.selects "[Ljava/lang/Object;" yGetClass yGetClass ∈ lw_tbl ∧ Cond.instanceMethod yGetClass ∈ lw_tbl ∧ Cond.native yGetClass ∈ lw_tbl := ⟨w1_208, w7_106, w7_105, w1_209, w1_225⟩
theorem ok_J7_copyOf_6403c : okM mJ7_copyOf_6403c 3 := ⟨w1_228, w1_10, ⟨by decide, by decide⟩, by decide +kernel⟩
theorem cs_J7_300 : CS RJ7 300 mJ7_copyOf_6403c 3 := ⟨ok_J7_copyOf_6403c, w1_226, w1_227⟩
theorem ok_J9_min_7cf53 : okM mJ9_min_7cf53 2 := ⟨w1_63, w1_5, ⟨by decide, by decide⟩, by decide +kernel⟩
theorem cs_J7_304 : CS RJ7 304 mJ9_min_7cf53 2 := ⟨ok_J9_min_7cf53, w1_232, w1_62⟩
theorem ac_J7_150 : Cond.methodLink RJ7 150 arraycopyName ∈ lw_tbl ∧ Cond.native arraycopyName ∈ lw_tbl ∧ Cond.static arraycopyName ∈ lw_tbl ∧ Cond.initialized "java/lang/System" ∈ lw_tbl := ⟨w1_233, w1_235, w1_234, w1_11⟩
theorem ok_J3_checkIndex_8e157 : okM mJ3_checkIndex_8e157 3 := ⟨w2_203, w1_20, ⟨by decide, by decide⟩, by decide +kernel⟩
theorem cs_J15_105 : CS RJ15 105 mJ3_checkIndex_8e157 3 := ⟨ok_J3_checkIndex_8e157, w2_201, w2_202⟩
theorem cs_J8_194 : CS RJ8 194 mJ9_max_7cf53 2 := ⟨ok_J9_max_7cf53, w1_200, w1_65⟩
theorem ok_J8_hugeLength_7cf53 : okM mJ8_hugeLength_7cf53 2 := ⟨w1_204, w1_9, ⟨by decide, by decide⟩, by decide +kernel⟩
theorem cs_J8_201 : CS RJ8 201 mJ8_hugeLength_7cf53 2 := ⟨ok_J8_hugeLength_7cf53, w1_202, w1_203⟩
theorem ob_X12_1 : Cond.methodLink RX12 1 objectInit ∈ lw_tbl ∧ Cond.instanceMethod objectInit ∈ lw_tbl ∧ Cond.code objectInit ⟨#[0xb1]⟩ 1 none ∈ lw_tbl := ⟨w5_70, w1_29, w1_30⟩
theorem fl_X12_7_13 : FL RX12 7 3 13 := ⟨(RX12, TX12, 59), "LeaseBoardModel", rfl, by decide, w5_74, Or.inl rfl⟩
theorem fl_X12_13_13 : FL RX12 13 4 13 := ⟨(RX12, TX12, 59), "LeaseBoardModel", rfl, by decide, w5_75, Or.inl rfl⟩
theorem fl_X12_16_13 : FL RX12 16 5 13 := ⟨(RX12, TX12, 59), "LeaseBoardModel", rfl, by decide, w5_76, Or.inl rfl⟩
theorem fl_X12_20_13 : FL RX12 20 7 13 := ⟨(RX12, TX12, 59), "LeaseBoardModel", rfl, by decide, w5_78, Or.inl rfl⟩
theorem fl_X12_23_13 : FL RX12 23 8 13 := ⟨(RX12, TX12, 59), "LeaseBoardModel", rfl, by decide, w5_79, Or.inl rfl⟩
theorem fl_X12_26_13 : FL RX12 26 9 13 := ⟨(RX12, TX12, 59), "LeaseBoardModel", rfl, by decide, w5_80, Or.inl rfl⟩
theorem fl_X12_29_13 : FL RX12 29 10 13 := ⟨(RX12, TX12, 59), "LeaseBoardModel", rfl, by decide, w5_81, Or.inl rfl⟩
theorem fl_X12_32_13 : FL RX12 32 12 13 := ⟨(RX12, TX12, 59), "LeaseBoardModel", rfl, by decide, w5_83, Or.inl rfl⟩
theorem fl_X12_35_13 : FL RX12 35 13 13 := ⟨(RX12, TX12, 59), "LeaseBoardModel", rfl, by decide, w5_84, Or.inl rfl⟩
theorem fl_X12_38_13 : FL RX12 38 14 13 := ⟨(RX12, TX12, 59), "LeaseBoardModel", rfl, by decide, w5_85, Or.inl rfl⟩
theorem fl_X12_41_13 : FL RX12 41 15 13 := ⟨(RX12, TX12, 59), "LeaseBoardModel", rfl, by decide, w5_86, Or.inl rfl⟩
theorem fl_X12_44_13 : FL RX12 44 16 13 := ⟨(RX12, TX12, 59), "LeaseBoardModel", rfl, by decide, w5_87, Or.inl rfl⟩
theorem fl_X12_47_13 : FL RX12 47 17 13 := ⟨(RX12, TX12, 59), "LeaseBoardModel", rfl, by decide, w5_88, Or.inl rfl⟩
theorem fl_X12_50_13 : FL RX12 50 18 13 := ⟨(RX12, TX12, 59), "LeaseBoardModel", rfl, by decide, w5_89, Or.inl rfl⟩
theorem fl_X12_54_13 : FL RX12 54 19 13 := ⟨(RX12, TX12, 59), "LeaseBoardModel", rfl, by decide, w5_90, Or.inl rfl⟩
theorem fl_X12_57_13 : FL RX12 57 20 13 := ⟨(RX12, TX12, 59), "LeaseBoardModel", rfl, by decide, w5_91, Or.inl rfl⟩
theorem fl_X12_60_13 : FL RX12 60 21 13 := ⟨(RX12, TX12, 59), "LeaseBoardModel", rfl, by decide, w5_92, Or.inl rfl⟩
theorem fl_X12_63_13 : FL RX12 63 22 13 := ⟨(RX12, TX12, 59), "LeaseBoardModel", rfl, by decide, w5_93, Or.inl rfl⟩
theorem fl_X12_66_13 : FL RX12 66 23 13 := ⟨(RX12, TX12, 59), "LeaseBoardModel", rfl, by decide, w5_94, Or.inl rfl⟩
theorem fl_X12_69_13 : FL RX12 69 24 13 := ⟨(RX12, TX12, 59), "LeaseBoardModel", rfl, by decide, w5_95, Or.inl rfl⟩
theorem fl_X12_72_13 : FL RX12 72 25 13 := ⟨(RX12, TX12, 59), "LeaseBoardModel", rfl, by decide, w5_96, Or.inl rfl⟩
theorem fl_X12_75_13 : FL RX12 75 26 13 := ⟨(RX12, TX12, 59), "LeaseBoardModel", rfl, by decide, w5_97, Or.inl rfl⟩
theorem fl_X12_78_13 : FL RX12 78 27 13 := ⟨(RX12, TX12, 59), "LeaseBoardModel", rfl, by decide, w5_98, Or.inl rfl⟩
theorem fl_X12_82_13 : FL RX12 82 29 13 := ⟨(RX12, TX12, 59), "LeaseBoardModel", rfl, by decide, w5_100, Or.inl rfl⟩
theorem fl_X12_85_13 : FL RX12 85 30 13 := ⟨(RX12, TX12, 59), "LeaseBoardModel", rfl, by decide, w5_101, Or.inl rfl⟩
theorem fl_X12_88_13 : FL RX12 88 31 13 := ⟨(RX12, TX12, 59), "LeaseBoardModel", rfl, by decide, w5_102, Or.inl rfl⟩
theorem fl_X12_91_13 : FL RX12 91 32 13 := ⟨(RX12, TX12, 59), "LeaseBoardModel", rfl, by decide, w5_103, Or.inl rfl⟩
theorem fl_X12_94_13 : FL RX12 94 33 13 := ⟨(RX12, TX12, 59), "LeaseBoardModel", rfl, by decide, w5_104, Or.inl rfl⟩
theorem fl_X12_97_13 : FL RX12 97 34 13 := ⟨(RX12, TX12, 59), "LeaseBoardModel", rfl, by decide, w5_105, Or.inl rfl⟩
theorem fl_X12_100_13 : FL RX12 100 36 13 := ⟨(RX12, TX12, 59), "LeaseBoardModel", rfl, by decide, w5_107, Or.inl rfl⟩
theorem fl_X12_103_13 : FL RX12 103 37 13 := ⟨(RX12, TX12, 59), "LeaseBoardModel", rfl, by decide, w5_108, Or.inl rfl⟩
theorem fl_X12_106_13 : FL RX12 106 38 13 := ⟨(RX12, TX12, 59), "LeaseBoardModel", rfl, by decide, w5_109, Or.inl rfl⟩
theorem fl_X12_109_13 : FL RX12 109 39 13 := ⟨(RX12, TX12, 59), "LeaseBoardModel", rfl, by decide, w5_110, Or.inl rfl⟩
theorem fl_X12_112_13 : FL RX12 112 40 13 := ⟨(RX12, TX12, 59), "LeaseBoardModel", rfl, by decide, w5_111, Or.inl rfl⟩
theorem fl_X12_115_13 : FL RX12 115 41 13 := ⟨(RX12, TX12, 59), "LeaseBoardModel", rfl, by decide, w5_112, Or.inl rfl⟩
theorem fl_X12_118_13 : FL RX12 118 42 13 := ⟨(RX12, TX12, 59), "LeaseBoardModel", rfl, by decide, w5_113, Or.inl rfl⟩
theorem fl_X12_121_13 : FL RX12 121 43 13 := ⟨(RX12, TX12, 59), "LeaseBoardModel", rfl, by decide, w5_114, Or.inl rfl⟩
theorem fl_X12_124_13 : FL RX12 124 44 13 := ⟨(RX12, TX12, 59), "LeaseBoardModel", rfl, by decide, w5_115, Or.inl rfl⟩
theorem fl_X12_127_13 : FL RX12 127 45 13 := ⟨(RX12, TX12, 59), "LeaseBoardModel", rfl, by decide, w5_116, Or.inl rfl⟩
theorem fl_X12_130_13 : FL RX12 130 47 13 := ⟨(RX12, TX12, 59), "LeaseBoardModel", rfl, by decide, w5_118, Or.inl rfl⟩
theorem fl_X12_133_13 : FL RX12 133 48 13 := ⟨(RX12, TX12, 59), "LeaseBoardModel", rfl, by decide, w5_119, Or.inl rfl⟩
theorem fl_X12_136_13 : FL RX12 136 54 13 := ⟨(RX12, TX12, 59), "LeaseBoardModel", rfl, by decide, w5_125, Or.inl rfl⟩
theorem fl_X12_139_13 : FL RX12 139 55 13 := ⟨(RX12, TX12, 59), "LeaseBoardModel", rfl, by decide, w5_126, Or.inl rfl⟩
theorem fl_X12_142_13 : FL RX12 142 56 13 := ⟨(RX12, TX12, 59), "LeaseBoardModel", rfl, by decide, w5_127, Or.inl rfl⟩
theorem fl_X12_145_13 : FL RX12 145 57 13 := ⟨(RX12, TX12, 59), "LeaseBoardModel", rfl, by decide, w5_128, Or.inl rfl⟩
theorem fl_X12_148_13 : FL RX12 148 0 13 := ⟨(RX12, TX12, 59), "LeaseBoardModel", rfl, by decide, w5_71, Or.inl rfl⟩
theorem ok_X12_in : okM mX12_in 3 := ⟨w6_21, w1_7, ⟨by decide, by decide⟩, by decide +kernel⟩
theorem cs_X12_153 : CS RX12 153 mX12_in 3 := ⟨ok_X12_in, w6_19, w6_20⟩
theorem ok_X12_isClock : okM mX12_isClock 2 := ⟨w6_16, w1_7, ⟨by decide, by decide⟩, by decide +kernel⟩
theorem cv_X12_157_13 : CV RX12 157 RX12 mX12_isClock 2 := ⟨ok_X12_isClock, w6_13, w6_15, ws_53⟩
theorem fl_X12_161_13 : FL RX12 161 2 13 := ⟨(RX12, TX12, 59), "LeaseBoardModel", rfl, by decide, w5_73, Or.inl rfl⟩
theorem fl_X12_164_13 : FL RX12 164 6 13 := ⟨(RX12, TX12, 59), "LeaseBoardModel", rfl, by decide, w5_77, Or.inl rfl⟩
theorem fl_X12_167_13 : FL RX12 167 11 13 := ⟨(RX12, TX12, 59), "LeaseBoardModel", rfl, by decide, w5_82, Or.inl rfl⟩
theorem fl_X12_170_13 : FL RX12 170 46 13 := ⟨(RX12, TX12, 59), "LeaseBoardModel", rfl, by decide, w5_117, Or.inl rfl⟩
theorem fl_X12_174_13 : FL RX12 174 1 13 := ⟨(RX12, TX12, 59), "LeaseBoardModel", rfl, by decide, w5_72, Or.inl rfl⟩
theorem fl_X12_178_13 : FL RX12 178 35 13 := ⟨(RX12, TX12, 59), "LeaseBoardModel", rfl, by decide, w5_106, Or.inl rfl⟩
theorem ok_X12_isKeeper : okM mX12_isKeeper 1 := ⟨w6_47, w1_7, ⟨by decide, by decide⟩, by decide +kernel⟩
theorem cv_X12_183_13 : CV RX12 183 RX12 mX12_isKeeper 1 := ⟨ok_X12_isKeeper, w6_44, w6_46, ws_54⟩
theorem ok_X12_kClock : okM mX12_kClock 1 := ⟨w6_51, w1_7, ⟨by decide, by decide⟩, by decide +kernel⟩
theorem cv_X12_187_13 : CV RX12 187 RX12 mX12_kClock 1 := ⟨ok_X12_kClock, w6_48, w6_50, ws_55⟩
theorem ok_X12_isWorker : okM mX12_isWorker 1 := ⟨w6_56, w1_7, ⟨by decide, by decide⟩, by decide +kernel⟩
theorem cv_X12_191_13 : CV RX12 191 RX12 mX12_isWorker 1 := ⟨ok_X12_isWorker, w6_53, w6_55, ws_56⟩
theorem ok_X12_wClock : okM mX12_wClock 1 := ⟨w6_60, w1_7, ⟨by decide, by decide⟩, by decide +kernel⟩
theorem cv_X12_194_13 : CV RX12 194 RX12 mX12_wClock 1 := ⟨ok_X12_wClock, w6_57, w6_59, ws_57⟩
theorem ok_X12_awake : okM mX12_awake 0 := ⟨w6_81, w1_7, ⟨by decide, by decide⟩, by decide +kernel⟩
theorem cv_X12_199_13 : CV RX12 199 RX12 mX12_awake 0 := ⟨ok_X12_awake, w6_78, w6_80, ws_59⟩
theorem ok_X12_isMost : okM mX12_isMost 0 := ⟨w6_77, w1_7, ⟨by decide, by decide⟩, by decide +kernel⟩
theorem cv_X12_203_13 : CV RX12 203 RX12 mX12_isMost 0 := ⟨ok_X12_isMost, w6_74, w6_76, ws_58⟩
theorem fl_X12_207_13 : FL RX12 207 28 13 := ⟨(RX12, TX12, 59), "LeaseBoardModel", rfl, by decide, w5_99, Or.inl rfl⟩
theorem ok_X12_long0 : okM mX12_long0 1 := ⟨w6_85, w1_7, ⟨by decide, by decide⟩, by decide +kernel⟩
theorem cv_X12_210_13 : CV RX12 210 RX12 mX12_long0 1 := ⟨ok_X12_long0, w6_82, w6_84, ws_60⟩
theorem ok_X12_isThing : okM mX12_isThing 1 := ⟨w6_97, w1_7, ⟨by decide, by decide⟩, by decide +kernel⟩
theorem cv_X12_214_13 : CV RX12 214 RX12 mX12_isThing 1 := ⟨ok_X12_isThing, w6_94, w6_96, ws_62⟩
theorem ok_X12_send : okM mX12_send 4 := ⟨w6_105, w1_7, ⟨by decide, by decide⟩, by decide +kernel⟩
theorem cv_X12_217_13 : CV RX12 217 RX12 mX12_send 4 := ⟨ok_X12_send, w6_102, w6_104, ws_64⟩
theorem ok_X12_areThere : okM mX12_areThere 3 := ⟨w6_93, w1_7, ⟨by decide, by decide⟩, by decide +kernel⟩
theorem cv_X12_221_13 : CV RX12 221 RX12 mX12_areThere 3 := ⟨ok_X12_areThere, w6_90, w6_92, ws_61⟩
theorem ok_X12_marked : okM mX12_marked 7 := ⟨w6_101, w1_7, ⟨by decide, by decide⟩, by decide +kernel⟩
theorem cv_X12_224_13 : CV RX12 224 RX12 mX12_marked 7 := ⟨ok_X12_marked, w6_98, w6_100, ws_63⟩
theorem ok_X12_isLetter : okM mX12_isLetter 1 := ⟨w6_125, w1_7, ⟨by decide, by decide⟩, by decide +kernel⟩
theorem cv_X12_228_13 : CV RX12 228 RX12 mX12_isLetter 1 := ⟨ok_X12_isLetter, w6_122, w6_124, ws_65⟩
theorem ok_X12_goes : okM mX12_goes 2 := ⟨w6_157, w1_7, ⟨by decide, by decide⟩, by decide +kernel⟩
theorem cv_X12_231_13 : CV RX12 231 RX12 mX12_goes 2 := ⟨ok_X12_goes, w6_154, w6_156, ws_69⟩
theorem ok_X12_grantOf : okM mX12_grantOf 2 := ⟨w6_161, w1_7, ⟨by decide, by decide⟩, by decide +kernel⟩
theorem cv_X12_235_13 : CV RX12 235 RX12 mX12_grantOf 2 := ⟨ok_X12_grantOf, w6_158, w6_160, ws_70⟩
theorem ok_X12_unqueue : okM mX12_unqueue 2 := ⟨w6_165, w1_7, ⟨by decide, by decide⟩, by decide +kernel⟩
theorem cv_X12_239_13 : CV RX12 239 RX12 mX12_unqueue 2 := ⟨ok_X12_unqueue, w6_162, w6_164, ws_71⟩
theorem ok_X12_isWritten : okM mX12_isWritten 1 := ⟨w6_189, w1_7, ⟨by decide, by decide⟩, by decide +kernel⟩
theorem cv_X12_242_13 : CV RX12 242 RX12 mX12_isWritten 1 := ⟨ok_X12_isWritten, w6_186, w6_188, ws_77⟩
theorem ok_X12_partsOf : okM mX12_partsOf 1 := ⟨w6_193, w1_7, ⟨by decide, by decide⟩, by decide +kernel⟩
theorem cv_X12_245_13 : CV RX12 245 RX12 mX12_partsOf 1 := ⟨ok_X12_partsOf, w6_190, w6_192, ws_78⟩
theorem fl_X12_248_13 : FL RX12 248 49 13 := ⟨(RX12, TX12, 59), "LeaseBoardModel", rfl, by decide, w5_120, Or.inl rfl⟩
theorem fl_X12_251_13 : FL RX12 251 50 13 := ⟨(RX12, TX12, 59), "LeaseBoardModel", rfl, by decide, w5_121, Or.inl rfl⟩
theorem ok_X12_answers : okM mX12_answers 2 := ⟨w6_181, w1_7, ⟨by decide, by decide⟩, by decide +kernel⟩
theorem cv_X12_254_13 : CV RX12 254 RX12 mX12_answers 2 := ⟨ok_X12_answers, w6_178, w6_180, ws_75⟩
theorem fl_X12_257_13 : FL RX12 257 51 13 := ⟨(RX12, TX12, 59), "LeaseBoardModel", rfl, by decide, w5_122, Or.inl rfl⟩
theorem ok_X12_refuses : okM mX12_refuses 1 := ⟨w6_177, w1_7, ⟨by decide, by decide⟩, by decide +kernel⟩
theorem cv_X12_260_13 : CV RX12 260 RX12 mX12_refuses 1 := ⟨ok_X12_refuses, w6_174, w6_176, ws_74⟩
theorem ok_X12_fits : okM mX12_fits 4 := ⟨w6_185, w1_7, ⟨by decide, by decide⟩, by decide +kernel⟩
theorem cv_X12_264_13 : CV RX12 264 RX12 mX12_fits 4 := ⟨ok_X12_fits, w6_182, w6_184, ws_76⟩
theorem ok_X12_queuedAt : okM mX12_queuedAt 2 := ⟨w6_197, w1_7, ⟨by decide, by decide⟩, by decide +kernel⟩
theorem cv_X12_268_13 : CV RX12 268 RX12 mX12_queuedAt 2 := ⟨ok_X12_queuedAt, w6_194, w6_196, ws_79⟩
theorem ok_X12_granted : okM mX12_granted 2 := ⟨w6_201, w1_7, ⟨by decide, by decide⟩, by decide +kernel⟩
theorem cv_X12_271_13 : CV RX12 271 RX12 mX12_granted 2 := ⟨ok_X12_granted, w6_198, w6_200, ws_80⟩
theorem ok_X12_grants : okM mX12_grants 2 := ⟨w6_205, w1_7, ⟨by decide, by decide⟩, by decide +kernel⟩
theorem cv_X12_274_13 : CV RX12 274 RX12 mX12_grants 2 := ⟨ok_X12_grants, w6_202, w6_204, ws_81⟩
theorem ok_X12_meant : okM mX12_meant 1 := ⟨w6_169, w1_7, ⟨by decide, by decide⟩, by decide +kernel⟩
theorem cv_X12_276_13 : CV RX12 276 RX12 mX12_meant 1 := ⟨ok_X12_meant, w6_166, w6_168, ws_72⟩
theorem ok_X12_isLate : okM mX12_isLate 1 := ⟨w6_209, w1_7, ⟨by decide, by decide⟩, by decide +kernel⟩
theorem cv_X12_279_13 : CV RX12 279 RX12 mX12_isLate 1 := ⟨ok_X12_isLate, w6_206, w6_208, ws_82⟩
theorem ok_X12_prolongs : okM mX12_prolongs 2 := ⟨w6_213, w1_7, ⟨by decide, by decide⟩, by decide +kernel⟩
theorem cv_X12_282_13 : CV RX12 282 RX12 mX12_prolongs 2 := ⟨ok_X12_prolongs, w6_210, w6_212, ws_83⟩
theorem ok_X12_looks : okM mX12_looks 1 := ⟨w6_153, w1_7, ⟨by decide, by decide⟩, by decide +kernel⟩
theorem cv_X12_285_13 : CV RX12 285 RX12 mX12_looks 1 := ⟨ok_X12_looks, w6_150, w6_152, ws_68⟩
theorem ok_X12_asks : okM mX12_asks 1 := ⟨w6_173, w1_7, ⟨by decide, by decide⟩, by decide +kernel⟩
theorem cv_X12_288_13 : CV RX12 288 RX12 mX12_asks 1 := ⟨ok_X12_asks, w6_170, w6_172, ws_73⟩
theorem ok_X12_rises : okM mX12_rises 1 := ⟨w6_217, w1_7, ⟨by decide, by decide⟩, by decide +kernel⟩
theorem cv_X12_291_13 : CV RX12 291 RX12 mX12_rises 1 := ⟨ok_X12_rises, w6_214, w6_216, ws_84⟩
theorem fl_X12_294_13 : FL RX12 294 52 13 := ⟨(RX12, TX12, 59), "LeaseBoardModel", rfl, by decide, w5_123, Or.inl rfl⟩
theorem ok_X12_toWorker : okM mX12_toWorker 1 := ⟨w6_145, w1_7, ⟨by decide, by decide⟩, by decide +kernel⟩
theorem cv_X12_297_13 : CV RX12 297 RX12 mX12_toWorker 1 := ⟨ok_X12_toWorker, w6_142, w6_144, ws_66⟩
theorem ok_X12_toKeeper : okM mX12_toKeeper 1 := ⟨w6_149, w1_7, ⟨by decide, by decide⟩, by decide +kernel⟩
theorem cv_X12_300_13 : CV RX12 300 RX12 mX12_toKeeper 1 := ⟨ok_X12_toKeeper, w6_146, w6_148, ws_67⟩
theorem ok_X12_may : okM mX12_may 2 := ⟨w7_1, w1_7, ⟨by decide, by decide⟩, by decide +kernel⟩
theorem cv_X12_303_13 : CV RX12 303 RX12 mX12_may 2 := ⟨ok_X12_may, w6_238, w7_0, ws_86⟩
theorem ok_X12_mays : okM mX12_mays 1 := ⟨w6_237, w1_7, ⟨by decide, by decide⟩, by decide +kernel⟩
theorem cv_X12_306_13 : CV RX12 306 RX12 mX12_mays 1 := ⟨ok_X12_mays, w6_234, w6_236, ws_85⟩
theorem ok_X12_isStore : okM mX12_isStore 1 := ⟨w7_17, w1_7, ⟨by decide, by decide⟩, by decide +kernel⟩
theorem cv_X12_309_13 : CV RX12 309 RX12 mX12_isStore 1 := ⟨ok_X12_isStore, w7_14, w7_16, ws_87⟩
theorem fl_X12_312_13 : FL RX12 312 53 13 := ⟨(RX12, TX12, 59), "LeaseBoardModel", rfl, by decide, w5_124, Or.inl rfl⟩
theorem ok_X12_underWay : okM mX12_underWay 0 := ⟨w7_29, w1_7, ⟨by decide, by decide⟩, by decide +kernel⟩
theorem cv_X12_315_13 : CV RX12 315 RX12 mX12_underWay 0 := ⟨ok_X12_underWay, w7_26, w7_28, ws_88⟩
theorem ok_X12_clashes : okM mX12_clashes 1 := ⟨w7_33, w1_7, ⟨by decide, by decide⟩, by decide +kernel⟩
theorem cv_X12_318_13 : CV RX12 318 RX12 mX12_clashes 1 := ⟨ok_X12_clashes, w7_30, w7_32, ws_89⟩
theorem fl_X12_321_13 : FL RX12 321 58 13 := ⟨(RX12, TX12, 59), "LeaseBoardModel", rfl, by decide, w5_129, Or.inl rfl⟩
theorem ok_X12_refuse : okM mX12_refuse 1 := ⟨w7_41, w1_7, ⟨by decide, by decide⟩, by decide +kernel⟩
theorem cv_X12_324_13 : CV RX12 324 RX12 mX12_refuse 1 := ⟨ok_X12_refuse, w7_38, w7_40, ws_90⟩
theorem ok_X12_done : okM mX12_done 1 := ⟨w7_45, w1_7, ⟨by decide, by decide⟩, by decide +kernel⟩
theorem cv_X12_327_13 : CV RX12 327 RX12 mX12_done 1 := ⟨ok_X12_done, w7_42, w7_44, ws_91⟩
theorem ok_X12_isUnder : okM mX12_isUnder 2 := ⟨w7_56, w1_7, ⟨by decide, by decide⟩, by decide +kernel⟩
theorem cs_X12_330 : CS RX12 330 mX12_isUnder 2 := ⟨ok_X12_isUnder, w7_54, w7_55⟩
theorem ok_X12_asThing : okM mX12_asThing 2 := ⟨w7_53, w1_7, ⟨by decide, by decide⟩, by decide +kernel⟩
theorem cv_X12_333_13 : CV RX12 333 RX12 mX12_asThing 2 := ⟨ok_X12_asThing, w7_50, w7_52, ws_92⟩
theorem ok_X12_asLetter : okM mX12_asLetter 2 := ⟨w7_60, w1_7, ⟨by decide, by decide⟩, by decide +kernel⟩
theorem cv_X12_336_13 : CV RX12 336 RX12 mX12_asLetter 2 := ⟨ok_X12_asLetter, w7_57, w7_59, ws_93⟩
theorem ok_X12_asRow : okM mX12_asRow 3 := ⟨w7_64, w1_7, ⟨by decide, by decide⟩, by decide +kernel⟩
theorem cv_X12_339_13 : CV RX12 339 RX12 mX12_asRow 3 := ⟨ok_X12_asRow, w7_61, w7_63, ws_94⟩
theorem ok_X12_copied : okM mX12_copied 2 := ⟨w7_68, w1_7, ⟨by decide, by decide⟩, by decide +kernel⟩
theorem cv_X12_343_13 : CV RX12 343 RX12 mX12_copied 2 := ⟨ok_X12_copied, w7_65, w7_67, ws_95⟩
theorem ok_X12_laid : okM mX12_laid 1 := ⟨w7_72, w1_7, ⟨by decide, by decide⟩, by decide +kernel⟩
theorem cv_X12_346_13 : CV RX12 346 RX12 mX12_laid 1 := ⟨ok_X12_laid, w7_69, w7_71, ws_96⟩
theorem ok_X7_init : okM mX7_init 3 := ⟨w2_66, w1_15, ⟨by decide, by decide⟩, by decide +kernel⟩
theorem cc_X0_3 : CI RX0 3 mX7_init 3 := ⟨ok_X7_init, w2_109, w2_65, rfl, rfl⟩
theorem fl_X0_9_1 : FL RX0 9 5 1 := ⟨(RX0, TX0, 6), "LeaseBoard$Counted", rfl, by decide, w2_110, Or.inl rfl⟩
theorem fl_X0_15_1 : FL RX0 15 3 1 := ⟨(RX0, TX0, 6), "LeaseBoard$Counted", rfl, by decide, w2_84, Or.inr w2_85⟩
theorem ok_Jx4a65c_size_8abf5 : okM mJx4a65c_size_8abf5 0 := ⟨w1_161, w1_4, ⟨by decide, by decide⟩, by decide +kernel⟩
theorem cv_X0_19_0 : CV RX0 19 RJx4a65c mJx4a65c_size_8abf5 0 := ⟨ok_Jx4a65c_size_8abf5, w3_235, w1_159, w1_160⟩
theorem ok_Jx4a65c_get_915e3 : okM mJx4a65c_get_915e3 1 := ⟨w2_197, w1_4, ⟨by decide, by decide⟩, by decide +kernel⟩
theorem cv_X0_25_0 : CV RX0 25 RJx4a65c mJx4a65c_get_915e3 1 := ⟨ok_Jx4a65c_get_915e3, w3_236, w2_195, w2_196⟩
theorem ca_X0_29_2 : castOK RX0 29 2 := ⟨(RX1, TX1, 5), "LeaseBoard$Grant", rfl, w3_237, Or.inl rfl⟩
theorem fl_X0_31_2 : FL RX0 31 1 2 := ⟨(RX1, TX1, 5), "LeaseBoard$Grant", rfl, by decide, w4_35, Or.inl rfl⟩
theorem ob_X1_1 : Cond.methodLink RX1 1 objectInit ∈ lw_tbl ∧ Cond.instanceMethod objectInit ∈ lw_tbl ∧ Cond.code objectInit ⟨#[0xb1]⟩ 1 none ∈ lw_tbl := ⟨w4_30, w1_29, w1_30⟩
theorem fl_X1_7_2 : FL RX1 7 3 2 := ⟨(RX1, TX1, 5), "LeaseBoard$Grant", rfl, by decide, w4_40, Or.inl rfl⟩
theorem fl_X1_13_2 : FL RX1 13 4 2 := ⟨(RX1, TX1, 5), "LeaseBoard$Grant", rfl, by decide, w4_43, Or.inl rfl⟩
theorem fl_X1_16_2 : FL RX1 16 0 2 := ⟨(RX1, TX1, 5), "LeaseBoard$Grant", rfl, by decide, w4_31, Or.inl rfl⟩
theorem fl_X1_20_2 : FL RX1 20 2 2 := ⟨(RX1, TX1, 5), "LeaseBoard$Grant", rfl, by decide, w4_37, Or.inl rfl⟩
theorem fl_X1_23_2 : FL RX1 23 1 2 := ⟨(RX1, TX1, 5), "LeaseBoard$Grant", rfl, by decide, w4_34, Or.inl rfl⟩
theorem ob_X2_3 : Cond.methodLink RX2 3 objectInit ∈ lw_tbl ∧ Cond.instanceMethod objectInit ∈ lw_tbl ∧ Cond.code objectInit ⟨#[0xb1]⟩ 1 none ∈ lw_tbl := ⟨w3_60, w1_29, w1_30⟩
theorem fl_X2_9_3 : FL RX2 9 4 3 := ⟨(RX2, TX2, 10), "LeaseBoard$Letter", rfl, by decide, w3_70, Or.inl rfl⟩
theorem fl_X2_15_3 : FL RX2 15 5 3 := ⟨(RX2, TX2, 10), "LeaseBoard$Letter", rfl, by decide, w3_73, Or.inl rfl⟩
theorem fl_X2_18_3 : FL RX2 18 6 3 := ⟨(RX2, TX2, 10), "LeaseBoard$Letter", rfl, by decide, w3_76, Or.inl rfl⟩
theorem fl_X2_22_3 : FL RX2 22 7 3 := ⟨(RX2, TX2, 10), "LeaseBoard$Letter", rfl, by decide, w3_80, Or.inl rfl⟩
theorem fl_X2_25_3 : FL RX2 25 8 3 := ⟨(RX2, TX2, 10), "LeaseBoard$Letter", rfl, by decide, w3_82, Or.inl rfl⟩
theorem fl_X2_28_3 : FL RX2 28 9 3 := ⟨(RX2, TX2, 10), "LeaseBoard$Letter", rfl, by decide, w3_84, Or.inl rfl⟩
theorem fl_X2_31_3 : FL RX2 31 0 3 := ⟨(RX2, TX2, 10), "LeaseBoard$Letter", rfl, by decide, w3_61, Or.inl rfl⟩
theorem fl_X2_34_3 : FL RX2 34 1 3 := ⟨(RX2, TX2, 10), "LeaseBoard$Letter", rfl, by decide, w3_63, Or.inl rfl⟩
theorem fl_X2_37_3 : FL RX2 37 2 3 := ⟨(RX2, TX2, 10), "LeaseBoard$Letter", rfl, by decide, w3_66, Or.inl rfl⟩
theorem fl_X2_40_3 : FL RX2 40 3 3 := ⟨(RX2, TX2, 10), "LeaseBoard$Letter", rfl, by decide, w3_68, Or.inl rfl⟩
theorem ob_X3_1 : Cond.methodLink RX3 1 objectInit ∈ lw_tbl ∧ Cond.instanceMethod objectInit ∈ lw_tbl ∧ Cond.code objectInit ⟨#[0xb1]⟩ 1 none ∈ lw_tbl := ⟨w2_14, w1_29, w1_30⟩
theorem fl_X3_7_4 : FL RX3 7 0 4 := ⟨(RX3, TX3, 6), "LeaseBoard$Memory", rfl, by decide, w2_15, Or.inl rfl⟩
theorem fl_X3_13_4 : FL RX3 13 1 4 := ⟨(RX3, TX3, 6), "LeaseBoard$Memory", rfl, by decide, w2_17, Or.inl rfl⟩
theorem fl_X3_17_4 : FL RX3 17 2 4 := ⟨(RX3, TX3, 6), "LeaseBoard$Memory", rfl, by decide, w2_19, Or.inl rfl⟩
theorem fl_X3_20_4 : FL RX3 20 3 4 := ⟨(RX3, TX3, 6), "LeaseBoard$Memory", rfl, by decide, w2_21, Or.inl rfl⟩
theorem fl_X3_23_4 : FL RX3 23 4 4 := ⟨(RX3, TX3, 6), "LeaseBoard$Memory", rfl, by decide, w2_23, Or.inl rfl⟩
theorem fl_X3_27_4 : FL RX3 27 5 4 := ⟨(RX3, TX3, 6), "LeaseBoard$Memory", rfl, by decide, w2_25, Or.inl rfl⟩
theorem fl_X3_30_3 : FL RX3 30 4 3 := ⟨(RX2, TX2, 10), "LeaseBoard$Letter", rfl, by decide, w3_71, Or.inl rfl⟩
theorem fl_X3_33_3 : FL RX3 33 5 3 := ⟨(RX2, TX2, 10), "LeaseBoard$Letter", rfl, by decide, w3_74, Or.inl rfl⟩
theorem fl_X3_34_3 : FL RX3 34 6 3 := ⟨(RX2, TX2, 10), "LeaseBoard$Letter", rfl, by decide, w3_77, Or.inl rfl⟩
theorem ob_X4_3 : Cond.methodLink RX4 3 objectInit ∈ lw_tbl ∧ Cond.instanceMethod objectInit ∈ lw_tbl ∧ Cond.code objectInit ⟨#[0xb1]⟩ 1 none ∈ lw_tbl := ⟨w2_70, w1_29, w1_30⟩
theorem nw_X4_9 : Cond.classLink RX4 9 RJx4a65c ∈ lw_tbl ∧ Cond.instantiable RJx4a65c 3 ∈ lw_tbl ∧ Cond.initialized RJx4a65c ∈ lw_tbl := ⟨w2_71, w1_32, w1_4⟩
theorem ok_Jx4a65c_init_da8c8 : okM mJx4a65c_init_da8c8 0 := ⟨w1_35, w1_4, ⟨by decide, by decide⟩, by decide +kernel⟩
theorem cc_X4_11 : CI RX4 11 mJx4a65c_init_da8c8 0 := ⟨ok_Jx4a65c_init_da8c8, w2_72, w1_34, rfl, rfl⟩
theorem fl_X4_12_1 : FL RX4 12 3 1 := ⟨(RX0, TX0, 6), "LeaseBoard$Only", rfl, by decide, w2_81, Or.inl rfl⟩
theorem fl_X4_12_5 : FL RX4 12 3 5 := ⟨(RX4, TX4, 5), "LeaseBoard$Only", rfl, by decide, w2_81, Or.inl rfl⟩
theorem fl_X4_12_7 : FL RX4 12 3 7 := ⟨(RX6, TX6, 6), "LeaseBoard$Only", rfl, by decide, w2_81, Or.inl rfl⟩
theorem fl_X4_12_8 : FL RX4 12 3 8 := ⟨(RX7, TX7, 5), "LeaseBoard$Only", rfl, by decide, w2_81, Or.inl rfl⟩
theorem fl_X4_12_10 : FL RX4 12 3 10 := ⟨(RX9, TX9, 9), "LeaseBoard$Only", rfl, by decide, w2_81, Or.inl rfl⟩
theorem fl_X4_18_1 : FL RX4 18 4 1 := ⟨(RX0, TX0, 6), "LeaseBoard$Only", rfl, by decide, w2_92, Or.inl rfl⟩
theorem fl_X4_18_5 : FL RX4 18 4 5 := ⟨(RX4, TX4, 5), "LeaseBoard$Only", rfl, by decide, w2_92, Or.inl rfl⟩
theorem fl_X4_18_7 : FL RX4 18 4 7 := ⟨(RX6, TX6, 6), "LeaseBoard$Only", rfl, by decide, w2_92, Or.inl rfl⟩
theorem fl_X4_18_8 : FL RX4 18 4 8 := ⟨(RX7, TX7, 5), "LeaseBoard$Only", rfl, by decide, w2_92, Or.inl rfl⟩
theorem fl_X4_18_10 : FL RX4 18 4 10 := ⟨(RX9, TX9, 9), "LeaseBoard$Only", rfl, by decide, w2_92, Or.inl rfl⟩
theorem fl_X4_22_1 : FL RX4 22 0 1 := ⟨(RX0, TX0, 6), "LeaseBoard$Only", rfl, by decide, w2_73, Or.inl rfl⟩
theorem fl_X4_22_5 : FL RX4 22 0 5 := ⟨(RX4, TX4, 5), "LeaseBoard$Only", rfl, by decide, w2_73, Or.inl rfl⟩
theorem fl_X4_22_7 : FL RX4 22 0 7 := ⟨(RX6, TX6, 6), "LeaseBoard$Only", rfl, by decide, w2_73, Or.inl rfl⟩
theorem fl_X4_22_8 : FL RX4 22 0 8 := ⟨(RX7, TX7, 5), "LeaseBoard$Only", rfl, by decide, w2_73, Or.inl rfl⟩
theorem fl_X4_22_10 : FL RX4 22 0 10 := ⟨(RX9, TX9, 9), "LeaseBoard$Only", rfl, by decide, w2_73, Or.inl rfl⟩
theorem fl_X4_26_1 : FL RX4 26 1 1 := ⟨(RX0, TX0, 6), "LeaseBoard$Only", rfl, by decide, w2_75, Or.inl rfl⟩
theorem fl_X4_26_5 : FL RX4 26 1 5 := ⟨(RX4, TX4, 5), "LeaseBoard$Only", rfl, by decide, w2_75, Or.inl rfl⟩
theorem fl_X4_26_7 : FL RX4 26 1 7 := ⟨(RX6, TX6, 6), "LeaseBoard$Only", rfl, by decide, w2_75, Or.inl rfl⟩
theorem fl_X4_26_8 : FL RX4 26 1 8 := ⟨(RX7, TX7, 5), "LeaseBoard$Only", rfl, by decide, w2_75, Or.inl rfl⟩
theorem fl_X4_26_10 : FL RX4 26 1 10 := ⟨(RX9, TX9, 9), "LeaseBoard$Only", rfl, by decide, w2_75, Or.inl rfl⟩
theorem fl_X4_29_1 : FL RX4 29 2 1 := ⟨(RX0, TX0, 6), "LeaseBoard$Only", rfl, by decide, w2_77, Or.inl rfl⟩
theorem fl_X4_29_5 : FL RX4 29 2 5 := ⟨(RX4, TX4, 5), "LeaseBoard$Only", rfl, by decide, w2_77, Or.inl rfl⟩
theorem fl_X4_29_7 : FL RX4 29 2 7 := ⟨(RX6, TX6, 6), "LeaseBoard$Only", rfl, by decide, w2_77, Or.inl rfl⟩
theorem fl_X4_29_8 : FL RX4 29 2 8 := ⟨(RX7, TX7, 5), "LeaseBoard$Only", rfl, by decide, w2_77, Or.inl rfl⟩
theorem fl_X4_29_10 : FL RX4 29 2 10 := ⟨(RX9, TX9, 9), "LeaseBoard$Only", rfl, by decide, w2_77, Or.inl rfl⟩
theorem ok_Jx4a65c_isEmpty_aae02 : okM mJx4a65c_isEmpty_aae02 0 := ⟨w3_210, w1_4, ⟨by decide, by decide⟩, by decide +kernel⟩
theorem cv_X4_32_0 : CV RX4 32 RJx4a65c mJx4a65c_isEmpty_aae02 0 := ⟨ok_Jx4a65c_isEmpty_aae02, w4_20, w3_208, w3_209⟩
theorem cv_X4_36_0 : CV RX4 36 RJx4a65c mJx4a65c_size_8abf5 0 := ⟨ok_Jx4a65c_size_8abf5, w3_21, w1_159, w1_160⟩
theorem cv_X4_40_0 : CV RX4 40 RJx4a65c mJx4a65c_get_915e3 1 := ⟨ok_Jx4a65c_get_915e3, w3_22, w2_195, w2_196⟩
theorem ca_X4_44_2 : castOK RX4 44 2 := ⟨(RX1, TX1, 5), "LeaseBoard$Grant", rfl, w3_23, Or.inl rfl⟩
theorem fl_X4_46_2 : FL RX4 46 2 2 := ⟨(RX1, TX1, 5), "LeaseBoard$Grant", rfl, by decide, w4_38, Or.inl rfl⟩
theorem fl_X4_49_2 : FL RX4 49 0 2 := ⟨(RX1, TX1, 5), "LeaseBoard$Grant", rfl, by decide, w4_32, Or.inl rfl⟩
theorem fl_X4_52_3 : FL RX4 52 1 3 := ⟨(RX2, TX2, 10), "LeaseBoard$Letter", rfl, by decide, w3_64, Or.inl rfl⟩
theorem ok_X4_grantOf : okM mX4_grantOf 1 := ⟨w3_194, w1_14, ⟨by decide, by decide⟩, by decide +kernel⟩
theorem cv_X4_55_1 : CV RX4 55 RX0 mX4_grantOf 1 := ⟨ok_X4_grantOf, w4_104, w3_193, w7_79⟩
theorem cv_X4_55_5 : CV RX4 55 RX4 mX4_grantOf 1 := ⟨ok_X4_grantOf, w4_104, w3_193, w7_80⟩
theorem cv_X4_55_7 : CV RX4 55 RX6 mX4_grantOf 1 := ⟨ok_X4_grantOf, w4_104, w3_193, w7_81⟩
theorem cv_X4_55_8 : CV RX4 55 RX7 mX4_grantOf 1 := ⟨ok_X4_grantOf, w4_104, w3_193, w7_82⟩
theorem cv_X4_55_10 : CV RX4 55 RX9 mX4_grantOf 1 := ⟨ok_X4_grantOf, w4_104, w3_193, w7_83⟩
theorem fl_X4_59_2 : FL RX4 59 3 2 := ⟨(RX1, TX1, 5), "LeaseBoard$Grant", rfl, by decide, w4_41, Or.inl rfl⟩
theorem fl_X4_62_3 : FL RX4 62 6 3 := ⟨(RX2, TX2, 10), "LeaseBoard$Letter", rfl, by decide, w3_78, Or.inl rfl⟩
theorem fl_X4_63_2 : FL RX4 63 4 2 := ⟨(RX1, TX1, 5), "LeaseBoard$Grant", rfl, by decide, w4_44, Or.inl rfl⟩
theorem ok_Jx4a65c_remove_915e3 : okM mJx4a65c_remove_915e3 1 := ⟨w3_179, w1_4, ⟨by decide, by decide⟩, by decide +kernel⟩
theorem cv_X4_66_0 : CV RX4 66 RJx4a65c mJx4a65c_remove_915e3 1 := ⟨ok_Jx4a65c_remove_915e3, w3_176, w3_177, w3_178⟩
theorem ob_X5_1 : Cond.methodLink RX5 1 objectInit ∈ lw_tbl ∧ Cond.instanceMethod objectInit ∈ lw_tbl ∧ Cond.code objectInit ⟨#[0xb1]⟩ 1 none ∈ lw_tbl := ⟨w1_167, w1_29, w1_30⟩
theorem fl_X5_7_6 : FL RX5 7 2 6 := ⟨(RX5, TX5, 3), "LeaseBoard$Party", rfl, by decide, w1_170, Or.inl rfl⟩
theorem fl_X5_7_11 : FL RX5 7 2 11 := ⟨(RX10, TX10, 5), "LeaseBoard$Party", rfl, by decide, w1_170, Or.inl rfl⟩
theorem fl_X5_13_6 : FL RX5 13 0 6 := ⟨(RX5, TX5, 3), "LeaseBoard$Party", rfl, by decide, w1_168, Or.inl rfl⟩
theorem fl_X5_13_11 : FL RX5 13 0 11 := ⟨(RX10, TX10, 5), "LeaseBoard$Party", rfl, by decide, w1_168, Or.inl rfl⟩
theorem fl_X5_17_6 : FL RX5 17 1 6 := ⟨(RX5, TX5, 3), "LeaseBoard$Party", rfl, by decide, w1_169, Or.inl rfl⟩
theorem fl_X5_17_11 : FL RX5 17 1 11 := ⟨(RX10, TX10, 5), "LeaseBoard$Party", rfl, by decide, w1_169, Or.inl rfl⟩
theorem ok_X4_init : okM mX4_init 3 := ⟨w2_69, w1_14, ⟨by decide, by decide⟩, by decide +kernel⟩
theorem cc_X6_3 : CI RX6 3 mX4_init 3 := ⟨ok_X4_init, w2_125, w2_68, rfl, rfl⟩
theorem fl_X6_9_7 : FL RX6 9 5 7 := ⟨(RX6, TX6, 6), "LeaseBoard$Rising", rfl, by decide, w2_126, Or.inl rfl⟩
theorem ok_X4_isWritten : okM mX4_isWritten 0 := ⟨w4_6, w1_14, ⟨by decide, by decide⟩, by decide +kernel⟩
theorem cu_X6_15_7 : CU RX6 15 RX6 "LeaseBoard$Only" ⟨"LeaseBoard$Rising", "isWritten", "()Z"⟩ mX4_isWritten 0 := ⟨ok_X4_isWritten, w4_1, w4_2, w4_5, w4_4, ⟨by decide, by decide⟩, by decide +kernel, prog_6_method_4_code, 2, (Option.some Jvm.ClassFile.FieldType.boolean), w4_5, w4_6⟩
theorem fl_X6_19_7 : FL RX6 19 3 7 := ⟨(RX6, TX6, 6), "LeaseBoard$Rising", rfl, by decide, w2_88, Or.inr w2_89⟩
theorem cv_X6_23_0 : CV RX6 23 RJx4a65c mJx4a65c_isEmpty_aae02 0 := ⟨ok_Jx4a65c_isEmpty_aae02, w4_7, w3_208, w3_209⟩
theorem cu_X6_28_7 : CU RX6 28 RX6 "LeaseBoard$Only" ⟨"LeaseBoard$Rising", "grantOf", "(I)LLeaseBoard$Grant;"⟩ mX4_grantOf 1 := ⟨ok_X4_grantOf, w3_189, w3_190, w3_193, w3_192, ⟨by decide, by decide⟩, by decide +kernel, prog_6_method_5_code, 3, (Option.some (Jvm.ClassFile.FieldType.object "LeaseBoard$Grant")), w3_193, w3_194⟩
theorem cc_X7_3 : CI RX7 3 mX4_init 3 := ⟨ok_X4_init, w2_67, w2_68, rfl, rfl⟩
theorem cu_X7_9_1 : CU RX7 9 RX0 "LeaseBoard$Only" ⟨"LeaseBoard$Shared", "isWritten", "()Z"⟩ mX4_isWritten 0 := ⟨ok_X4_isWritten, w4_11, w4_12, w4_5, w4_13, ⟨by decide, by decide⟩, by decide +kernel, prog_6_method_4_code, 2, (Option.some Jvm.ClassFile.FieldType.boolean), w4_5, w4_6⟩
theorem cu_X7_9_8 : CU RX7 9 RX7 "LeaseBoard$Only" ⟨"LeaseBoard$Shared", "isWritten", "()Z"⟩ mX4_isWritten 0 := ⟨ok_X4_isWritten, w4_11, w4_12, w4_5, w4_14, ⟨by decide, by decide⟩, by decide +kernel, prog_6_method_4_code, 2, (Option.some Jvm.ClassFile.FieldType.boolean), w4_5, w4_6⟩
theorem fl_X7_15_1 : FL RX7 15 3 1 := ⟨(RX0, TX0, 6), "LeaseBoard$Shared", rfl, by decide, w2_86, Or.inr w2_87⟩
theorem fl_X7_15_8 : FL RX7 15 3 8 := ⟨(RX7, TX7, 5), "LeaseBoard$Shared", rfl, by decide, w2_86, Or.inr w2_87⟩
theorem cv_X7_19_0 : CV RX7 19 RJx4a65c mJx4a65c_isEmpty_aae02 0 := ⟨ok_Jx4a65c_isEmpty_aae02, w4_15, w3_208, w3_209⟩
theorem ob_X8_1 : Cond.methodLink RX8 1 objectInit ∈ lw_tbl ∧ Cond.instanceMethod objectInit ∈ lw_tbl ∧ Cond.code objectInit ⟨#[0xb1]⟩ 1 none ∈ lw_tbl := ⟨w1_71, w1_29, w1_30⟩
theorem fl_X8_7_9 : FL RX8 7 0 9 := ⟨(RX8, TX8, 4), "LeaseBoard$Tray", rfl, by decide, w1_72, Or.inl rfl⟩
theorem fl_X8_13_9 : FL RX8 13 1 9 := ⟨(RX8, TX8, 4), "LeaseBoard$Tray", rfl, by decide, w1_74, Or.inl rfl⟩
theorem fl_X8_17_9 : FL RX8 17 2 9 := ⟨(RX8, TX8, 4), "LeaseBoard$Tray", rfl, by decide, w1_76, Or.inl rfl⟩
theorem fl_X8_21_9 : FL RX8 21 3 9 := ⟨(RX8, TX8, 4), "LeaseBoard$Tray", rfl, by decide, w1_78, Or.inl rfl⟩
theorem cc_X9_3 : CI RX9 3 mX4_init 3 := ⟨ok_X4_init, w2_141, w2_68, rfl, rfl⟩
theorem fl_X9_9_10 : FL RX9 9 5 10 := ⟨(RX9, TX9, 9), "LeaseBoard$Waiting", rfl, by decide, w2_142, Or.inl rfl⟩
theorem fl_X9_15_10 : FL RX9 15 6 10 := ⟨(RX9, TX9, 9), "LeaseBoard$Waiting", rfl, by decide, w2_143, Or.inl rfl⟩
theorem fl_X9_19_10 : FL RX9 19 7 10 := ⟨(RX9, TX9, 9), "LeaseBoard$Waiting", rfl, by decide, w2_145, Or.inl rfl⟩
theorem fl_X9_23_10 : FL RX9 23 8 10 := ⟨(RX9, TX9, 9), "LeaseBoard$Waiting", rfl, by decide, w2_147, Or.inl rfl⟩
theorem fl_X9_27_10 : FL RX9 27 3 10 := ⟨(RX9, TX9, 9), "LeaseBoard$Waiting", rfl, by decide, w2_82, Or.inr w2_83⟩
theorem cv_X9_31_0 : CV RX9 31 RJx4a65c mJx4a65c_isEmpty_aae02 0 := ⟨ok_Jx4a65c_isEmpty_aae02, w3_207, w3_208, w3_209⟩
theorem ok_X9_dropFirst : okM mX9_dropFirst 0 := ⟨w3_202, w1_18, ⟨by decide, by decide⟩, by decide +kernel⟩
theorem cv_X9_37_10 : CV RX9 37 RX9 mX9_dropFirst 0 := ⟨ok_X9_dropFirst, w3_199, w3_200, w3_201⟩
theorem fl_X9_41_10 : FL RX9 41 2 10 := ⟨(RX9, TX9, 9), "LeaseBoard$Waiting", rfl, by decide, w2_78, Or.inr w2_79⟩
theorem ok_X5_init : okM mX5_init 2 := ⟨w1_166, w1_8, ⟨by decide, by decide⟩, by decide +kernel⟩
theorem cc_X10_3 : CI RX10 3 mX5_init 2 := ⟨ok_X5_init, w2_7, w1_165, rfl, rfl⟩
theorem fl_X10_11_11 : FL RX10 11 3 11 := ⟨(RX10, TX10, 5), "LeaseBoard$Worker", rfl, by decide, w2_40, Or.inl rfl⟩
theorem fl_X10_17_11 : FL RX10 17 4 11 := ⟨(RX10, TX10, 5), "LeaseBoard$Worker", rfl, by decide, w2_41, Or.inl rfl⟩
theorem nw_X10_9 : Cond.classLink RX10 9 RX3 ∈ lw_tbl ∧ Cond.instantiable RX3 6 ∈ lw_tbl ∧ Cond.initialized RX3 ∈ lw_tbl := ⟨w2_8, w2_10, w1_13⟩
theorem ok_X3_init : okM mX3_init 0 := ⟨w2_13, w1_13, ⟨by decide, by decide⟩, by decide +kernel⟩
theorem cn_X10_21 : CN RX10 21 "LeaseBoard" mX3_init 0 := ⟨ok_X3_init, w2_11, w2_12, rfl, rfl⟩
theorem ob_X11_1 : Cond.methodLink RX11 1 objectInit ∈ lw_tbl ∧ Cond.instanceMethod objectInit ∈ lw_tbl ∧ Cond.code objectInit ⟨#[0xb1]⟩ 1 none ∈ lw_tbl := ⟨w1_28, w1_29, w1_30⟩
theorem nw_X11_7 : Cond.classLink RX11 7 RJx4a65c ∈ lw_tbl ∧ Cond.instantiable RJx4a65c 3 ∈ lw_tbl ∧ Cond.initialized RJx4a65c ∈ lw_tbl := ⟨w1_31, w1_32, w1_4⟩
theorem cc_X11_9 : CI RX11 9 mJx4a65c_init_da8c8 0 := ⟨ok_Jx4a65c_init_da8c8, w1_33, w1_34, rfl, rfl⟩
theorem fl_X11_10_12 : FL RX11 10 1 12 := ⟨(RX11, TX11, 18), "LeaseBoard", rfl, by decide, w1_91, Or.inl rfl⟩
theorem fl_X11_16_12 : FL RX11 16 2 12 := ⟨(RX11, TX11, 18), "LeaseBoard", rfl, by decide, w1_92, Or.inl rfl⟩
theorem fl_X11_19_12 : FL RX11 19 3 12 := ⟨(RX11, TX11, 18), "LeaseBoard", rfl, by decide, w1_93, Or.inl rfl⟩
theorem fl_X11_22_12 : FL RX11 22 4 12 := ⟨(RX11, TX11, 18), "LeaseBoard", rfl, by decide, w1_94, Or.inl rfl⟩
theorem fl_X11_27_12 : FL RX11 27 5 12 := ⟨(RX11, TX11, 18), "LeaseBoard", rfl, by decide, w1_95, Or.inl rfl⟩
theorem fl_X11_30_12 : FL RX11 30 6 12 := ⟨(RX11, TX11, 18), "LeaseBoard", rfl, by decide, w1_96, Or.inl rfl⟩
theorem fl_X11_35_12 : FL RX11 35 7 12 := ⟨(RX11, TX11, 18), "LeaseBoard", rfl, by decide, w1_97, Or.inl rfl⟩
theorem fl_X11_39_12 : FL RX11 39 8 12 := ⟨(RX11, TX11, 18), "LeaseBoard", rfl, by decide, w1_98, Or.inl rfl⟩
theorem fl_X11_43_12 : FL RX11 43 9 12 := ⟨(RX11, TX11, 18), "LeaseBoard", rfl, by decide, w1_99, Or.inl rfl⟩
theorem fl_X11_46_12 : FL RX11 46 10 12 := ⟨(RX11, TX11, 18), "LeaseBoard", rfl, by decide, w1_100, Or.inl rfl⟩
theorem fl_X11_49_12 : FL RX11 49 11 12 := ⟨(RX11, TX11, 18), "LeaseBoard", rfl, by decide, w1_101, Or.inl rfl⟩
theorem fl_X11_52_12 : FL RX11 52 12 12 := ⟨(RX11, TX11, 18), "LeaseBoard", rfl, by decide, w1_102, Or.inl rfl⟩
theorem fl_X11_55_12 : FL RX11 55 13 12 := ⟨(RX11, TX11, 18), "LeaseBoard", rfl, by decide, w1_103, Or.inl rfl⟩
theorem fl_X11_58_12 : FL RX11 58 14 12 := ⟨(RX11, TX11, 18), "LeaseBoard", rfl, by decide, w1_104, Or.inl rfl⟩
theorem fl_X11_61_12 : FL RX11 61 15 12 := ⟨(RX11, TX11, 18), "LeaseBoard", rfl, by decide, w1_105, Or.inl rfl⟩
theorem fl_X11_64_12 : FL RX11 64 16 12 := ⟨(RX11, TX11, 18), "LeaseBoard", rfl, by decide, w1_106, Or.inl rfl⟩
theorem fl_X11_67_12 : FL RX11 67 17 12 := ⟨(RX11, TX11, 18), "LeaseBoard", rfl, by decide, w1_107, Or.inl rfl⟩
theorem cs_X11_70 : CS RX11 70 mJ9_min_7cf53 2 := ⟨ok_J9_min_7cf53, w1_61, w1_62⟩
theorem cs_X11_76 : CS RX11 76 mJ9_max_7cf53 2 := ⟨ok_J9_max_7cf53, w1_64, w1_65⟩
theorem fl_X11_79_12 : FL RX11 79 0 12 := ⟨(RX11, TX11, 18), "LeaseBoard", rfl, by decide, w1_90, Or.inl rfl⟩
theorem nw_X11_33 : Cond.classLink RX11 33 RX8 ∈ lw_tbl ∧ Cond.instantiable RX8 4 ∈ lw_tbl ∧ Cond.initialized RX8 ∈ lw_tbl := ⟨w1_59, w1_67, w1_6⟩
theorem ok_X8_init : okM mX8_init 0 := ⟨w1_70, w1_6, ⟨by decide, by decide⟩, by decide +kernel⟩
theorem cn_X11_82 : CN RX11 82 "LeaseBoard" mX8_init 0 := ⟨ok_X8_init, w1_68, w1_69, rfl, rfl⟩
theorem ok_X11_isClock : okM mX11_isClock 2 := ⟨w1_152, w1_1, ⟨by decide, by decide⟩, by decide +kernel⟩
theorem cv_X11_83_12 : CV RX11 83 RX11 mX11_isClock 2 := ⟨ok_X11_isClock, w1_149, w1_151, ws_0⟩
theorem cv_X11_87_0 : CV RX11 87 RJx4a65c mJx4a65c_size_8abf5 0 := ⟨ok_Jx4a65c_size_8abf5, w1_158, w1_159, w1_160⟩
theorem nw_X11_91 : Cond.classLink RX11 91 RX5 ∈ lw_tbl ∧ Cond.instantiable RX5 3 ∈ lw_tbl ∧ Cond.initialized RX5 ∈ lw_tbl := ⟨w1_162, w1_163, w1_8⟩
theorem cc_X11_93 : CI RX11 93 mX5_init 2 := ⟨ok_X5_init, w1_164, w1_165, rfl, rfl⟩
theorem ok_Jx4a65c_add_9ea2d : okM mJx4a65c_add_9ea2d 1 := ⟨w1_184, w1_4, ⟨by decide, by decide⟩, by decide +kernel⟩
theorem cv_X11_96_0 : CV RX11 96 RJx4a65c mJx4a65c_add_9ea2d 1 := ⟨ok_Jx4a65c_add_9ea2d, w1_181, w1_182, w1_183⟩
theorem nw_X11_100 : Cond.classLink RX11 100 RX10 ∈ lw_tbl ∧ Cond.instantiable RX10 5 ∈ lw_tbl ∧ Cond.initialized RX10 ∈ lw_tbl := ⟨w2_2, w2_3, w1_12⟩
theorem ok_X10_init : okM mX10_init 2 := ⟨w2_6, w1_12, ⟨by decide, by decide⟩, by decide +kernel⟩
theorem cc_X11_102 : CI RX11 102 mX10_init 2 := ⟨ok_X10_init, w2_4, w2_5, rfl, rfl⟩
theorem ok_X11_isWithin : okM mX11_isWithin 3 := ⟨w1_157, w1_1, ⟨by decide, by decide⟩, by decide +kernel⟩
theorem cs_X11_103 : CS RX11 103 mX11_isWithin 3 := ⟨ok_X11_isWithin, w1_155, w1_156⟩
theorem ok_X11_newThing : okM mX11_newThing 3 := ⟨w2_58, w1_1, ⟨by decide, by decide⟩, by decide +kernel⟩
theorem cv_X11_107_12 : CV RX11 107 RX11 mX11_newThing 3 := ⟨ok_X11_newThing, w2_55, w2_57, ws_4⟩
theorem ok_X11_partyAt : okM mX11_partyAt 2 := ⟨w2_189, w1_1, ⟨by decide, by decide⟩, by decide +kernel⟩
theorem cv_X11_113_12 : CV RX11 113 RX11 mX11_partyAt 2 := ⟨ok_X11_partyAt, w2_186, w2_188, ws_5⟩
theorem ok_X5_shows : okM mX5_shows 1 := ⟨w2_218, w1_8, ⟨by decide, by decide⟩, by decide +kernel⟩
theorem cv_X11_119_6 : CV RX11 119 RX5 mX5_shows 1 := ⟨ok_X5_shows, w2_213, w2_214, w2_215⟩
theorem cv_X11_119_11 : CV RX11 119 RX10 mX5_shows 1 := ⟨ok_X5_shows, w2_213, w2_214, w2_217⟩
theorem fl_X11_123_6 : FL RX11 123 2 6 := ⟨(RX5, TX5, 3), "LeaseBoard$Party", rfl, by decide, w1_171, Or.inl rfl⟩
theorem fl_X11_123_11 : FL RX11 123 2 11 := ⟨(RX10, TX10, 5), "LeaseBoard$Party", rfl, by decide, w1_171, Or.inl rfl⟩
theorem ok_X11_workerAt : okM mX11_workerAt 1 := ⟨w2_211, w1_1, ⟨by decide, by decide⟩, by decide +kernel⟩
theorem cv_X11_127_12 : CV RX11 127 RX11 mX11_workerAt 1 := ⟨ok_X11_workerAt, w2_208, w2_210, ws_7⟩
theorem ok_X10_memoryOf : okM mX10_memoryOf 1 := ⟨w2_231, w1_12, ⟨by decide, by decide⟩, by decide +kernel⟩
theorem cv_X11_131_11 : CV RX11 131 RX10 mX10_memoryOf 1 := ⟨ok_X10_memoryOf, w2_228, w2_229, w2_230⟩
theorem fl_X11_135_4 : FL RX11 135 1 4 := ⟨(RX3, TX3, 6), "LeaseBoard$Memory", rfl, by decide, w2_18, Or.inl rfl⟩
theorem ok_X3_forget : okM mX3_forget 0 := ⟨w2_235, w1_13, ⟨by decide, by decide⟩, by decide +kernel⟩
theorem cv_X11_140_4 : CV RX11 140 RX3 mX3_forget 0 := ⟨ok_X3_forget, w2_232, w2_233, w2_234⟩
theorem fl_X11_143_11 : FL RX11 143 2 11 := ⟨(RX10, TX10, 5), "LeaseBoard$Worker", rfl, by decide, w1_172, Or.inr w1_173⟩
theorem ok_X11_keeperAt : okM mX11_keeperAt 1 := ⟨w2_193, w1_1, ⟨by decide, by decide⟩, by decide +kernel⟩
theorem cv_X11_144_12 : CV RX11 144 RX11 mX11_keeperAt 1 := ⟨ok_X11_keeperAt, w2_190, w2_192, ws_6⟩
theorem ok_X11_areMostAwake : okM mX11_areMostAwake 0 := ⟨w3_3, w1_1, ⟨by decide, by decide⟩, by decide +kernel⟩
theorem cv_X11_148_12 : CV RX11 148 RX11 mX11_areMostAwake 0 := ⟨ok_X11_areMostAwake, w3_0, w3_2, ws_8⟩
theorem ok_X11_prolongBoard : okM mX11_prolongBoard 1 := ⟨w3_11, w1_1, ⟨by decide, by decide⟩, by decide +kernel⟩
theorem cv_X11_152_12 : CV RX11 152 RX11 mX11_prolongBoard 1 := ⟨ok_X11_prolongBoard, w3_8, w3_10, ws_10⟩
theorem ok_X11_thingAt : okM mX11_thingAt 1 := ⟨w3_35, w1_1, ⟨by decide, by decide⟩, by decide +kernel⟩
theorem cv_X11_156_12 : CV RX11 156 RX11 mX11_thingAt 1 := ⟨ok_X11_thingAt, w3_32, w3_34, ws_11⟩
theorem ok_X0_mayBeAsked : okM mX0_mayBeAsked 2 := ⟨w3_42, w1_16, ⟨by decide, by decide⟩, by decide +kernel⟩
theorem cu_X11_160_1 : CU RX11 160 RX0 "LeaseBoard$Only" ⟨"LeaseBoard$Only", "mayBeAsked", "(II)Z"⟩ mX0_mayBeAsked 2 := ⟨ok_X0_mayBeAsked, w3_36, w3_39, w3_41, w3_40, ⟨by decide, by decide⟩, by decide +kernel, prog_6_method_2_code, 3, (Option.some Jvm.ClassFile.FieldType.boolean), w3_37, w3_50⟩
theorem ok_X4_mayBeAsked : okM mX4_mayBeAsked 2 := ⟨w3_50, w1_14, ⟨by decide, by decide⟩, by decide +kernel⟩
theorem cv_X11_160_5 : CV RX11 160 RX4 mX4_mayBeAsked 2 := ⟨ok_X4_mayBeAsked, w3_36, w3_37, w3_38⟩
theorem ok_X6_mayBeAsked : okM mX6_mayBeAsked 2 := ⟨w3_45, w1_17, ⟨by decide, by decide⟩, by decide +kernel⟩
theorem cu_X11_160_7 : CU RX11 160 RX6 "LeaseBoard$Only" ⟨"LeaseBoard$Only", "mayBeAsked", "(II)Z"⟩ mX6_mayBeAsked 2 := ⟨ok_X6_mayBeAsked, w3_36, w3_39, w3_44, w3_43, ⟨by decide, by decide⟩, by decide +kernel, prog_6_method_2_code, 3, (Option.some Jvm.ClassFile.FieldType.boolean), w3_37, w3_50⟩
theorem ok_X7_mayBeAsked : okM mX7_mayBeAsked 2 := ⟨w3_48, w1_15, ⟨by decide, by decide⟩, by decide +kernel⟩
theorem cu_X11_160_8 : CU RX11 160 RX7 "LeaseBoard$Only" ⟨"LeaseBoard$Only", "mayBeAsked", "(II)Z"⟩ mX7_mayBeAsked 2 := ⟨ok_X7_mayBeAsked, w3_36, w3_39, w3_47, w3_46, ⟨by decide, by decide⟩, by decide +kernel, prog_6_method_2_code, 3, (Option.some Jvm.ClassFile.FieldType.boolean), w3_37, w3_50⟩
theorem cv_X11_160_10 : CV RX11 160 RX9 mX4_mayBeAsked 2 := ⟨ok_X4_mayBeAsked, w3_36, w3_37, w3_49⟩
theorem ok_X11_hasRoomFor : okM mX11_hasRoomFor 1 := ⟨w3_54, w1_1, ⟨by decide, by decide⟩, by decide +kernel⟩
theorem cv_X11_165_12 : CV RX11 165 RX11 mX11_hasRoomFor 1 := ⟨ok_X11_hasRoomFor, w3_51, w3_53, ws_12⟩
theorem nw_X11_169 : Cond.classLink RX11 169 RX2 ∈ lw_tbl ∧ Cond.instantiable RX2 10 ∈ lw_tbl ∧ Cond.initialized RX2 ∈ lw_tbl := ⟨w3_55, w3_56, w1_21⟩
theorem ok_X2_init : okM mX2_init 4 := ⟨w3_59, w1_21, ⟨by decide, by decide⟩, by decide +kernel⟩
theorem cc_X11_171 : CI RX11 171 mX2_init 4 := ⟨ok_X2_init, w3_57, w3_58, rfl, rfl⟩
theorem ok_X2_fill : okM mX2_fill 3 := ⟨w3_110, w1_21, ⟨by decide, by decide⟩, by decide +kernel⟩
theorem cv_X11_174_3 : CV RX11 174 RX2 mX2_fill 3 := ⟨ok_X2_fill, w3_107, w3_108, w3_109⟩
theorem ok_X11_sendMarked : okM mX11_sendMarked 1 := ⟨w3_114, w1_1, ⟨by decide, by decide⟩, by decide +kernel⟩
theorem cv_X11_178_12 : CV RX11 178 RX11 mX11_sendMarked 1 := ⟨ok_X11_sendMarked, w3_111, w3_113, ws_13⟩
theorem ok_X11_refusalToHolder : okM mX11_refusalToHolder 3 := ⟨w3_134, w1_1, ⟨by decide, by decide⟩, by decide +kernel⟩
theorem cv_X11_182_12 : CV RX11 182 RX11 mX11_refusalToHolder 3 := ⟨ok_X11_refusalToHolder, w3_131, w3_133, ws_16⟩
theorem ok_X11_memoryAt : okM mX11_memoryAt 2 := ⟨w3_118, w1_1, ⟨by decide, by decide⟩, by decide +kernel⟩
theorem cv_X11_186_12 : CV RX11 186 RX11 mX11_memoryAt 2 := ⟨ok_X11_memoryAt, w3_115, w3_117, ws_14⟩
theorem fl_X11_190_4 : FL RX11 190 2 4 := ⟨(RX3, TX3, 6), "LeaseBoard$Memory", rfl, by decide, w2_20, Or.inl rfl⟩
theorem fl_X11_193_4 : FL RX11 193 3 4 := ⟨(RX3, TX3, 6), "LeaseBoard$Memory", rfl, by decide, w2_22, Or.inl rfl⟩
theorem fl_X11_196_4 : FL RX11 196 4 4 := ⟨(RX3, TX3, 6), "LeaseBoard$Memory", rfl, by decide, w2_24, Or.inl rfl⟩
theorem ok_X11_send : okM mX11_send 1 := ⟨w3_126, w1_1, ⟨by decide, by decide⟩, by decide +kernel⟩
theorem cv_X11_200_12 : CV RX11 200 RX11 mX11_send 1 := ⟨ok_X11_send, w3_123, w3_125, ws_15⟩
theorem ca_X11_203_7 : castOK RX11 203 7 := ⟨(RX6, TX6, 6), "LeaseBoard$Rising", rfl, w2_120, Or.inl rfl⟩
theorem cx_X11_203_5 : castNo RX11 203 5 := ⟨(RX4, TX4, 5), "LeaseBoard$Rising", rfl, w2_120, by decide +kernel⟩
theorem cx_X11_203_8 : castNo RX11 203 8 := ⟨(RX7, TX7, 5), "LeaseBoard$Rising", rfl, w2_120, by decide +kernel⟩
theorem cx_X11_203_1 : castNo RX11 203 1 := ⟨(RX0, TX0, 6), "LeaseBoard$Rising", rfl, w2_120, by decide +kernel⟩
theorem cx_X11_203_10 : castNo RX11 203 10 := ⟨(RX9, TX9, 9), "LeaseBoard$Rising", rfl, w2_120, by decide +kernel⟩
theorem ok_X11_letterAt : okM mX11_letterAt 1 := ⟨w3_150, w1_1, ⟨by decide, by decide⟩, by decide +kernel⟩
theorem cv_X11_205_12 : CV RX11 205 RX11 mX11_letterAt 1 := ⟨ok_X11_letterAt, w3_147, w3_149, ws_17⟩
theorem fl_X11_209_3 : FL RX11 209 9 3 := ⟨(RX2, TX2, 10), "LeaseBoard$Letter", rfl, by decide, w3_85, Or.inl rfl⟩
theorem ok_X2_isToKeeper : okM mX2_isToKeeper 0 := ⟨w3_154, w1_21, ⟨by decide, by decide⟩, by decide +kernel⟩
theorem cv_X11_212_3 : CV RX11 212 RX2 mX2_isToKeeper 0 := ⟨ok_X2_isToKeeper, w3_151, w3_152, w3_153⟩
theorem ok_X11_reachKeeper : okM mX11_reachKeeper 1 := ⟨w3_158, w1_1, ⟨by decide, by decide⟩, by decide +kernel⟩
theorem cv_X11_215_12 : CV RX11 215 RX11 mX11_reachKeeper 1 := ⟨ok_X11_reachKeeper, w3_155, w3_157, ws_18⟩
theorem ok_X11_reachWorker : okM mX11_reachWorker 1 := ⟨w4_133, w1_1, ⟨by decide, by decide⟩, by decide +kernel⟩
theorem cv_X11_218_12 : CV RX11 218 RX11 mX11_reachWorker 1 := ⟨ok_X11_reachWorker, w4_130, w4_132, ws_33⟩
theorem fl_X11_221_3 : FL RX11 221 0 3 := ⟨(RX2, TX2, 10), "LeaseBoard$Letter", rfl, by decide, w3_62, Or.inl rfl⟩
theorem fl_X11_224_3 : FL RX11 224 1 3 := ⟨(RX2, TX2, 10), "LeaseBoard$Letter", rfl, by decide, w3_65, Or.inl rfl⟩
theorem fl_X11_227_3 : FL RX11 227 2 3 := ⟨(RX2, TX2, 10), "LeaseBoard$Letter", rfl, by decide, w3_67, Or.inl rfl⟩
theorem fl_X11_230_3 : FL RX11 230 3 3 := ⟨(RX2, TX2, 10), "LeaseBoard$Letter", rfl, by decide, w3_69, Or.inl rfl⟩
theorem fl_X11_233_3 : FL RX11 233 4 3 := ⟨(RX2, TX2, 10), "LeaseBoard$Letter", rfl, by decide, w3_72, Or.inl rfl⟩
theorem fl_X11_234_3 : FL RX11 234 5 3 := ⟨(RX2, TX2, 10), "LeaseBoard$Letter", rfl, by decide, w3_75, Or.inl rfl⟩
theorem fl_X11_235_3 : FL RX11 235 6 3 := ⟨(RX2, TX2, 10), "LeaseBoard$Letter", rfl, by decide, w3_79, Or.inl rfl⟩
theorem ok_X2_takeMarkOf : okM mX2_takeMarkOf 1 := ⟨w3_227, w1_21, ⟨by decide, by decide⟩, by decide +kernel⟩
theorem cv_X11_236_3 : CV RX11 236 RX2 mX2_takeMarkOf 1 := ⟨ok_X2_takeMarkOf, w3_224, w3_225, w3_226⟩
theorem fl_X11_240_3 : FL RX11 240 8 3 := ⟨(RX2, TX2, 10), "LeaseBoard$Letter", rfl, by decide, w3_83, Or.inl rfl⟩
theorem fl_X11_243_3 : FL RX11 243 7 3 := ⟨(RX2, TX2, 10), "LeaseBoard$Letter", rfl, by decide, w3_81, Or.inl rfl⟩
theorem ok_X11_ableLeader : okM mX11_ableLeader 0 := ⟨w3_162, w1_1, ⟨by decide, by decide⟩, by decide +kernel⟩
theorem cv_X11_246_12 : CV RX11 246 RX11 mX11_ableLeader 0 := ⟨ok_X11_ableLeader, w3_159, w3_161, ws_19⟩
theorem ok_X11_lookAt : okM mX11_lookAt 3 := ⟨w3_166, w1_1, ⟨by decide, by decide⟩, by decide +kernel⟩
theorem cv_X11_250_12 : CV RX11 250 RX11 mX11_lookAt 3 := ⟨ok_X11_lookAt, w3_163, w3_165, ws_20⟩
theorem fl_X11_254_1 : FL RX11 254 3 1 := ⟨(RX0, TX0, 6), "LeaseBoard$Only", rfl, by decide, w2_90, Or.inl rfl⟩
theorem fl_X11_254_5 : FL RX11 254 3 5 := ⟨(RX4, TX4, 5), "LeaseBoard$Only", rfl, by decide, w2_90, Or.inl rfl⟩
theorem fl_X11_254_7 : FL RX11 254 3 7 := ⟨(RX6, TX6, 6), "LeaseBoard$Only", rfl, by decide, w2_90, Or.inl rfl⟩
theorem fl_X11_254_8 : FL RX11 254 3 8 := ⟨(RX7, TX7, 5), "LeaseBoard$Only", rfl, by decide, w2_90, Or.inl rfl⟩
theorem fl_X11_254_10 : FL RX11 254 3 10 := ⟨(RX9, TX9, 9), "LeaseBoard$Only", rfl, by decide, w2_90, Or.inl rfl⟩
theorem ok_X11_grantAt : okM mX11_grantAt 2 := ⟨w4_174, w1_1, ⟨by decide, by decide⟩, by decide +kernel⟩
theorem cv_X11_257_12 : CV RX11 257 RX11 mX11_grantAt 2 := ⟨ok_X11_grantAt, w4_171, w4_173, ws_34⟩
theorem fl_X11_261_2 : FL RX11 261 0 2 := ⟨(RX1, TX1, 5), "LeaseBoard$Grant", rfl, by decide, w4_33, Or.inl rfl⟩
theorem fl_X11_264_2 : FL RX11 264 2 2 := ⟨(RX1, TX1, 5), "LeaseBoard$Grant", rfl, by decide, w4_39, Or.inl rfl⟩
theorem fl_X11_265_2 : FL RX11 265 1 2 := ⟨(RX1, TX1, 5), "LeaseBoard$Grant", rfl, by decide, w4_36, Or.inl rfl⟩
theorem fl_X11_266_2 : FL RX11 266 3 2 := ⟨(RX1, TX1, 5), "LeaseBoard$Grant", rfl, by decide, w4_42, Or.inl rfl⟩
theorem fl_X11_267_2 : FL RX11 267 4 2 := ⟨(RX1, TX1, 5), "LeaseBoard$Grant", rfl, by decide, w4_45, Or.inl rfl⟩
theorem fl_X11_270_1 : FL RX11 270 0 1 := ⟨(RX0, TX0, 6), "LeaseBoard$Only", rfl, by decide, w2_74, Or.inl rfl⟩
theorem fl_X11_270_5 : FL RX11 270 0 5 := ⟨(RX4, TX4, 5), "LeaseBoard$Only", rfl, by decide, w2_74, Or.inl rfl⟩
theorem fl_X11_270_7 : FL RX11 270 0 7 := ⟨(RX6, TX6, 6), "LeaseBoard$Only", rfl, by decide, w2_74, Or.inl rfl⟩
theorem fl_X11_270_8 : FL RX11 270 0 8 := ⟨(RX7, TX7, 5), "LeaseBoard$Only", rfl, by decide, w2_74, Or.inl rfl⟩
theorem fl_X11_270_10 : FL RX11 270 0 10 := ⟨(RX9, TX9, 9), "LeaseBoard$Only", rfl, by decide, w2_74, Or.inl rfl⟩
theorem fl_X11_271_1 : FL RX11 271 1 1 := ⟨(RX0, TX0, 6), "LeaseBoard$Only", rfl, by decide, w2_76, Or.inl rfl⟩
theorem fl_X11_271_5 : FL RX11 271 1 5 := ⟨(RX4, TX4, 5), "LeaseBoard$Only", rfl, by decide, w2_76, Or.inl rfl⟩
theorem fl_X11_271_7 : FL RX11 271 1 7 := ⟨(RX6, TX6, 6), "LeaseBoard$Only", rfl, by decide, w2_76, Or.inl rfl⟩
theorem fl_X11_271_8 : FL RX11 271 1 8 := ⟨(RX7, TX7, 5), "LeaseBoard$Only", rfl, by decide, w2_76, Or.inl rfl⟩
theorem fl_X11_271_10 : FL RX11 271 1 10 := ⟨(RX9, TX9, 9), "LeaseBoard$Only", rfl, by decide, w2_76, Or.inl rfl⟩
theorem fl_X11_274_1 : FL RX11 274 2 1 := ⟨(RX0, TX0, 6), "LeaseBoard$Only", rfl, by decide, w2_80, Or.inl rfl⟩
theorem fl_X11_274_5 : FL RX11 274 2 5 := ⟨(RX4, TX4, 5), "LeaseBoard$Only", rfl, by decide, w2_80, Or.inl rfl⟩
theorem fl_X11_274_7 : FL RX11 274 2 7 := ⟨(RX6, TX6, 6), "LeaseBoard$Only", rfl, by decide, w2_80, Or.inl rfl⟩
theorem fl_X11_274_8 : FL RX11 274 2 8 := ⟨(RX7, TX7, 5), "LeaseBoard$Only", rfl, by decide, w2_80, Or.inl rfl⟩
theorem fl_X11_274_10 : FL RX11 274 2 10 := ⟨(RX9, TX9, 9), "LeaseBoard$Only", rfl, by decide, w2_80, Or.inl rfl⟩
theorem ca_X11_277_1 : castOK RX11 277 1 := ⟨(RX0, TX0, 6), "LeaseBoard$Counted", rfl, w2_104, Or.inl rfl⟩
theorem cx_X11_277_5 : castNo RX11 277 5 := ⟨(RX4, TX4, 5), "LeaseBoard$Counted", rfl, w2_104, by decide +kernel⟩
theorem cx_X11_277_8 : castNo RX11 277 8 := ⟨(RX7, TX7, 5), "LeaseBoard$Counted", rfl, w2_104, by decide +kernel⟩
theorem cx_X11_277_7 : castNo RX11 277 7 := ⟨(RX6, TX6, 6), "LeaseBoard$Counted", rfl, w2_104, by decide +kernel⟩
theorem cx_X11_277_10 : castNo RX11 277 10 := ⟨(RX9, TX9, 9), "LeaseBoard$Counted", rfl, w2_104, by decide +kernel⟩
theorem fl_X11_279_1 : FL RX11 279 5 1 := ⟨(RX0, TX0, 6), "LeaseBoard$Counted", rfl, by decide, w2_111, Or.inl rfl⟩
theorem fl_X11_282_7 : FL RX11 282 5 7 := ⟨(RX6, TX6, 6), "LeaseBoard$Rising", rfl, by decide, w2_127, Or.inl rfl⟩
theorem ca_X11_285_10 : castOK RX11 285 10 := ⟨(RX9, TX9, 9), "LeaseBoard$Waiting", rfl, w2_136, Or.inl rfl⟩
theorem cx_X11_285_5 : castNo RX11 285 5 := ⟨(RX4, TX4, 5), "LeaseBoard$Waiting", rfl, w2_136, by decide +kernel⟩
theorem cx_X11_285_8 : castNo RX11 285 8 := ⟨(RX7, TX7, 5), "LeaseBoard$Waiting", rfl, w2_136, by decide +kernel⟩
theorem cx_X11_285_1 : castNo RX11 285 1 := ⟨(RX0, TX0, 6), "LeaseBoard$Waiting", rfl, w2_136, by decide +kernel⟩
theorem cx_X11_285_7 : castNo RX11 285 7 := ⟨(RX6, TX6, 6), "LeaseBoard$Waiting", rfl, w2_136, by decide +kernel⟩
theorem fl_X11_287_10 : FL RX11 287 6 10 := ⟨(RX9, TX9, 9), "LeaseBoard$Waiting", rfl, by decide, w2_144, Or.inl rfl⟩
theorem fl_X11_290_10 : FL RX11 290 7 10 := ⟨(RX9, TX9, 9), "LeaseBoard$Waiting", rfl, by decide, w2_146, Or.inl rfl⟩
theorem ok_X11_usersOf : okM mX11_usersOf 1 := ⟨w4_186, w1_1, ⟨by decide, by decide⟩, by decide +kernel⟩
theorem cv_X11_293_12 : CV RX11 293 RX11 mX11_usersOf 1 := ⟨ok_X11_usersOf, w4_183, w4_185, ws_35⟩
theorem ok_X9_queuedAt : okM mX9_queuedAt 1 := ⟨w3_214, w1_18, ⟨by decide, by decide⟩, by decide +kernel⟩
theorem cv_X11_297_10 : CV RX11 297 RX9 mX9_queuedAt 1 := ⟨ok_X9_queuedAt, w3_211, w3_212, w3_213⟩
theorem ok_X11_mayUse : okM mX11_mayUse 2 := ⟨w4_190, w1_1, ⟨by decide, by decide⟩, by decide +kernel⟩
theorem cv_X11_300_12 : CV RX11 300 RX11 mX11_mayUse 2 := ⟨ok_X11_mayUse, w4_187, w4_189, ws_36⟩
theorem fl_X11_303_4 : FL RX11 303 0 4 := ⟨(RX3, TX3, 6), "LeaseBoard$Memory", rfl, by decide, w2_16, Or.inl rfl⟩
theorem fl_X11_306_4 : FL RX11 306 5 4 := ⟨(RX3, TX3, 6), "LeaseBoard$Memory", rfl, by decide, w2_26, Or.inl rfl⟩
theorem ok_X11_isStored : okM mX11_isStored 2 := ⟨w4_206, w1_1, ⟨by decide, by decide⟩, by decide +kernel⟩
theorem cv_X11_309_12 : CV RX11 309 RX11 mX11_isStored 2 := ⟨ok_X11_isStored, w4_203, w4_205, ws_37⟩
theorem ok_X11_lettersUnderWay : okM mX11_lettersUnderWay 0 := ⟨w4_218, w1_1, ⟨by decide, by decide⟩, by decide +kernel⟩
theorem cv_X11_312_12 : CV RX11 312 RX11 mX11_lettersUnderWay 0 := ⟨ok_X11_lettersUnderWay, w4_215, w4_217, ws_38⟩
theorem ok_X11_keepersAwake : okM mX11_keepersAwake 0 := ⟨w3_7, w1_1, ⟨by decide, by decide⟩, by decide +kernel⟩
theorem cv_X11_315_12 : CV RX11 315 RX11 mX11_keepersAwake 0 := ⟨ok_X11_keepersAwake, w3_4, w3_6, ws_9⟩
theorem ok_X11_thingsInClash : okM mX11_thingsInClash 0 := ⟨w4_222, w1_1, ⟨by decide, by decide⟩, by decide +kernel⟩
theorem cv_X11_318_12 : CV RX11 318 RX11 mX11_thingsInClash 0 := ⟨ok_X11_thingsInClash, w4_219, w4_221, ws_39⟩
theorem ok_X11_trayAt : okM mX11_trayAt 1 := ⟨w4_234, w1_1, ⟨by decide, by decide⟩, by decide +kernel⟩
theorem cv_X11_321_12 : CV RX11 321 RX11 mX11_trayAt 1 := ⟨ok_X11_trayAt, w4_231, w4_233, ws_41⟩
theorem ok_X11_canBePut : okM mX11_canBePut 2 := ⟨w4_238, w1_1, ⟨by decide, by decide⟩, by decide +kernel⟩
theorem cv_X11_325_12 : CV RX11 325 RX11 mX11_canBePut 2 := ⟨ok_X11_canBePut, w4_235, w4_237, ws_42⟩
theorem ok_X11_refuse : okM mX11_refuse 1 := ⟨w5_2, w1_1, ⟨by decide, by decide⟩, by decide +kernel⟩
theorem cv_X11_328_12 : CV RX11 328 RX11 mX11_refuse 1 := ⟨ok_X11_refuse, w4_239, w5_1, ws_43⟩
theorem ok_X8_clear : okM mX8_clear 0 := ⟨w5_6, w1_6, ⟨by decide, by decide⟩, by decide +kernel⟩
theorem cv_X11_331_9 : CV RX11 331 RX8 mX8_clear 0 := ⟨ok_X8_clear, w5_3, w5_4, w5_5⟩
theorem fl_X11_334_9 : FL RX11 334 0 9 := ⟨(RX8, TX8, 4), "LeaseBoard$Tray", rfl, by decide, w1_73, Or.inl rfl⟩
theorem fl_X11_337_9 : FL RX11 337 1 9 := ⟨(RX8, TX8, 4), "LeaseBoard$Tray", rfl, by decide, w1_75, Or.inl rfl⟩
theorem ok_X11_numbersOf : okM mX11_numbersOf 1 := ⟨w5_10, w1_1, ⟨by decide, by decide⟩, by decide +kernel⟩
theorem cv_X11_341_12 : CV RX11 341 RX11 mX11_numbersOf 1 := ⟨ok_X11_numbersOf, w5_7, w5_9, ws_44⟩
theorem fl_X11_345_9 : FL RX11 345 2 9 := ⟨(RX8, TX8, 4), "LeaseBoard$Tray", rfl, by decide, w1_77, Or.inl rfl⟩
theorem ok_X11_truthsOf : okM mX11_truthsOf 1 := ⟨w5_14, w1_1, ⟨by decide, by decide⟩, by decide +kernel⟩
theorem cv_X11_349_12 : CV RX11 349 RX11 mX11_truthsOf 1 := ⟨ok_X11_truthsOf, w5_11, w5_13, ws_45⟩
theorem fl_X11_353_9 : FL RX11 353 3 9 := ⟨(RX8, TX8, 4), "LeaseBoard$Tray", rfl, by decide, w1_79, Or.inl rfl⟩
theorem ok_J9_floorMod_7cf53 : okM mJ9_floorMod_7cf53 2 := ⟨w5_22, w1_5, ⟨by decide, by decide⟩, by decide +kernel⟩
theorem cs_X11_357 : CS RX11 357 mJ9_floorMod_7cf53 2 := ⟨ok_J9_floorMod_7cf53, w5_20, w5_21⟩
theorem ok_X11_lengthAsKind : okM mX11_lengthAsKind 2 := ⟨w5_26, w1_1, ⟨by decide, by decide⟩, by decide +kernel⟩
theorem cv_X11_360_12 : CV RX11 360 RX11 mX11_lengthAsKind 2 := ⟨ok_X11_lengthAsKind, w5_23, w5_25, ws_46⟩
theorem ok_X11_thingOfLetter : okM mX11_thingOfLetter 2 := ⟨w5_41, w1_1, ⟨by decide, by decide⟩, by decide +kernel⟩
theorem cv_X11_364_12 : CV RX11 364 RX11 mX11_thingOfLetter 2 := ⟨ok_X11_thingOfLetter, w5_38, w5_40, ws_48⟩
theorem ok_X11_numberAt : okM mX11_numberAt 2 := ⟨w5_45, w1_1, ⟨by decide, by decide⟩, by decide +kernel⟩
theorem cv_X11_368_12 : CV RX11 368 RX11 mX11_numberAt 2 := ⟨ok_X11_numberAt, w5_42, w5_44, ws_49⟩
theorem ok_X11_truthAt : okM mX11_truthAt 2 := ⟨w5_49, w1_1, ⟨by decide, by decide⟩, by decide +kernel⟩
theorem cv_X11_371_12 : CV RX11 371 RX11 mX11_truthAt 2 := ⟨ok_X11_truthAt, w5_46, w5_48, ws_50⟩
theorem ok_X11_sumOfCopied : okM mX11_sumOfCopied 2 := ⟨w5_53, w1_1, ⟨by decide, by decide⟩, by decide +kernel⟩
theorem cv_X11_374_12 : CV RX11 374 RX11 mX11_sumOfCopied 2 := ⟨ok_X11_sumOfCopied, w5_50, w5_52, ws_51⟩
theorem ok_X11_lengthLaidAmongShared : okM mX11_lengthLaidAmongShared 1 := ⟨w5_57, w1_1, ⟨by decide, by decide⟩, by decide +kernel⟩
theorem cv_X11_377_12 : CV RX11 377 RX11 mX11_lengthLaidAmongShared 1 := ⟨ok_X11_lengthLaidAmongShared, w5_54, w5_56, ws_52⟩
theorem cv_X11_383_0 : CV RX11 383 RJx4a65c mJx4a65c_get_915e3 1 := ⟨ok_Jx4a65c_get_915e3, w2_194, w2_195, w2_196⟩
theorem ca_X11_91_6 : castOK RX11 91 6 := ⟨(RX5, TX5, 3), "LeaseBoard$Party", rfl, w1_162, Or.inl rfl⟩
theorem ca_X11_91_11 : castOK RX11 91 11 := ⟨(RX10, TX10, 5), "LeaseBoard$Party", rfl, w1_162, Or.inr w7_84⟩
theorem ca_X11_100_11 : castOK RX11 100 11 := ⟨(RX10, TX10, 5), "LeaseBoard$Worker", rfl, w2_2, Or.inl rfl⟩
theorem ca_X11_161_1 : castOK RX11 161 1 := ⟨(RX0, TX0, 6), "LeaseBoard$Only", rfl, w2_163, Or.inr w7_85⟩
theorem ca_X11_161_5 : castOK RX11 161 5 := ⟨(RX4, TX4, 5), "LeaseBoard$Only", rfl, w2_163, Or.inl rfl⟩
theorem ca_X11_161_7 : castOK RX11 161 7 := ⟨(RX6, TX6, 6), "LeaseBoard$Only", rfl, w2_163, Or.inr w7_86⟩
theorem ca_X11_161_8 : castOK RX11 161 8 := ⟨(RX7, TX7, 5), "LeaseBoard$Only", rfl, w2_163, Or.inr w7_87⟩
theorem ca_X11_161_10 : castOK RX11 161 10 := ⟨(RX9, TX9, 9), "LeaseBoard$Only", rfl, w2_163, Or.inr w7_88⟩
theorem ca_X11_169_3 : castOK RX11 169 3 := ⟨(RX2, TX2, 10), "LeaseBoard$Letter", rfl, w3_55, Or.inl rfl⟩
theorem ca_X11_262_2 : castOK RX11 262 2 := ⟨(RX1, TX1, 5), "LeaseBoard$Grant", rfl, w4_25, Or.inl rfl⟩
theorem ok_X11_divideUp : okM mX11_divideUp 2 := ⟨w2_61, w1_1, ⟨by decide, by decide⟩, by decide +kernel⟩
theorem cs_X11_387 : CS RX11 387 mX11_divideUp 2 := ⟨ok_X11_divideUp, w2_59, w2_60⟩
theorem nw_X11_390 : Cond.classLink RX11 390 RX7 ∈ lw_tbl ∧ Cond.instantiable RX7 5 ∈ lw_tbl ∧ Cond.initialized RX7 ∈ lw_tbl := ⟨w2_62, w2_63, w1_15⟩
theorem cc_X11_392 : CI RX11 392 mX7_init 3 := ⟨ok_X7_init, w2_64, w2_65, rfl, rfl⟩
theorem nw_X11_277 : Cond.classLink RX11 277 RX0 ∈ lw_tbl ∧ Cond.instantiable RX0 6 ∈ lw_tbl ∧ Cond.initialized RX0 ∈ lw_tbl := ⟨w2_104, w2_105, w1_16⟩
theorem ok_X0_init : okM mX0_init 3 := ⟨w2_108, w1_16, ⟨by decide, by decide⟩, by decide +kernel⟩
theorem cc_X11_395 : CI RX11 395 mX0_init 3 := ⟨ok_X0_init, w2_106, w2_107, rfl, rfl⟩
theorem nw_X11_203 : Cond.classLink RX11 203 RX6 ∈ lw_tbl ∧ Cond.instantiable RX6 6 ∈ lw_tbl ∧ Cond.initialized RX6 ∈ lw_tbl := ⟨w2_120, w2_121, w1_17⟩
theorem ok_X6_init : okM mX6_init 2 := ⟨w2_124, w1_17, ⟨by decide, by decide⟩, by decide +kernel⟩
theorem cc_X11_396 : CI RX11 396 mX6_init 2 := ⟨ok_X6_init, w2_122, w2_123, rfl, rfl⟩
theorem nw_X11_285 : Cond.classLink RX11 285 RX9 ∈ lw_tbl ∧ Cond.instantiable RX9 9 ∈ lw_tbl ∧ Cond.initialized RX9 ∈ lw_tbl := ⟨w2_136, w2_137, w1_18⟩
theorem ok_X9_init : okM mX9_init 2 := ⟨w2_140, w1_18, ⟨by decide, by decide⟩, by decide +kernel⟩
theorem cc_X11_397 : CI RX11 397 mX9_init 2 := ⟨ok_X9_init, w2_138, w2_139, rfl, rfl⟩
theorem nw_X11_161 : Cond.classLink RX11 161 RX4 ∈ lw_tbl ∧ Cond.instantiable RX4 5 ∈ lw_tbl ∧ Cond.initialized RX4 ∈ lw_tbl := ⟨w2_163, w2_164, w1_14⟩
theorem cc_X11_398 : CI RX11 398 mX4_init 3 := ⟨ok_X4_init, w2_165, w2_68, rfl, rfl⟩
theorem ok_X4_prolongAll : okM mX4_prolongAll 1 := ⟨w3_20, w1_14, ⟨by decide, by decide⟩, by decide +kernel⟩
theorem cv_X11_399_1 : CV RX11 399 RX0 mX4_prolongAll 1 := ⟨ok_X4_prolongAll, w3_12, w3_13, w3_16⟩
theorem cv_X11_399_5 : CV RX11 399 RX4 mX4_prolongAll 1 := ⟨ok_X4_prolongAll, w3_12, w3_13, w3_14⟩
theorem cv_X11_399_7 : CV RX11 399 RX6 mX4_prolongAll 1 := ⟨ok_X4_prolongAll, w3_12, w3_13, w3_17⟩
theorem cv_X11_399_8 : CV RX11 399 RX7 mX4_prolongAll 1 := ⟨ok_X4_prolongAll, w3_12, w3_13, w3_18⟩
theorem cv_X11_399_10 : CV RX11 399 RX9 mX4_prolongAll 1 := ⟨ok_X4_prolongAll, w3_12, w3_13, w3_19⟩
theorem ok_X9_callFirst : okM mX9_callFirst 1 := ⟨w3_27, w1_18, ⟨by decide, by decide⟩, by decide +kernel⟩
theorem cv_X11_402_10 : CV RX11 402 RX9 mX9_callFirst 1 := ⟨ok_X9_callFirst, w3_24, w3_25, w3_26⟩
theorem fl_X11_405_11 : FL RX11 405 4 11 := ⟨(RX10, TX10, 5), "LeaseBoard$Worker", rfl, by decide, w2_42, Or.inl rfl⟩
theorem cu_X11_408_11 : CU RX11 408 RX10 "LeaseBoard$Party" ⟨"LeaseBoard$Worker", "shows", "(I)J"⟩ mX5_shows 1 := ⟨ok_X5_shows, w3_119, w3_120, w2_214, w3_122, ⟨by decide, by decide⟩, by decide +kernel, prog_7_method_2_code, 2, (Option.some Jvm.ClassFile.FieldType.long), w2_214, w2_218⟩
theorem ok_X11_hearAsk : okM mX11_hearAsk 3 := ⟨w3_218, w1_1, ⟨by decide, by decide⟩, by decide +kernel⟩
theorem cv_X11_409_12 : CV RX11 409 RX11 mX11_hearAsk 3 := ⟨ok_X11_hearAsk, w3_215, w3_217, ws_22⟩
theorem ok_X11_hearRenew : okM mX11_hearRenew 3 := ⟨w4_94, w1_1, ⟨by decide, by decide⟩, by decide +kernel⟩
theorem cv_X11_413_12 : CV RX11 413 RX11 mX11_hearRenew 3 := ⟨ok_X11_hearRenew, w4_91, w4_93, ws_28⟩
theorem ok_X11_hearEnd : okM mX11_hearEnd 3 := ⟨w4_112, w1_1, ⟨by decide, by decide⟩, by decide +kernel⟩
theorem cv_X11_416_12 : CV RX11 416 RX11 mX11_hearEnd 3 := ⟨ok_X11_hearEnd, w4_109, w4_111, ws_30⟩
theorem ok_X11_hearRise : okM mX11_hearRise 3 := ⟨w4_125, w1_1, ⟨by decide, by decide⟩, by decide +kernel⟩
theorem cv_X11_419_12 : CV RX11 419 RX11 mX11_hearRise 3 := ⟨ok_X11_hearRise, w4_122, w4_124, ws_31⟩
theorem ok_X4_dropEnded : okM mX4_dropEnded 1 := ⟨w3_175, w1_14, ⟨by decide, by decide⟩, by decide +kernel⟩
theorem cv_X11_422_1 : CV RX11 422 RX0 mX4_dropEnded 1 := ⟨ok_X4_dropEnded, w3_167, w3_168, w3_171⟩
theorem cv_X11_422_5 : CV RX11 422 RX4 mX4_dropEnded 1 := ⟨ok_X4_dropEnded, w3_167, w3_168, w3_169⟩
theorem cv_X11_422_7 : CV RX11 422 RX6 mX4_dropEnded 1 := ⟨ok_X4_dropEnded, w3_167, w3_168, w3_172⟩
theorem cv_X11_422_8 : CV RX11 422 RX7 mX4_dropEnded 1 := ⟨ok_X4_dropEnded, w3_167, w3_168, w3_173⟩
theorem cv_X11_422_10 : CV RX11 422 RX9 mX4_dropEnded 1 := ⟨ok_X4_dropEnded, w3_167, w3_168, w3_174⟩
theorem ok_X6_dropLoneRiser : okM mX6_dropLoneRiser 0 := ⟨w3_188, w1_17, ⟨by decide, by decide⟩, by decide +kernel⟩
theorem cv_X11_425_7 : CV RX11 425 RX6 mX6_dropLoneRiser 0 := ⟨ok_X6_dropLoneRiser, w3_185, w3_186, w3_187⟩
theorem ok_X9_dropLateFirst : okM mX9_dropLateFirst 1 := ⟨w3_198, w1_18, ⟨by decide, by decide⟩, by decide +kernel⟩
theorem cv_X11_428_10 : CV RX11 428 RX9 mX9_dropLateFirst 1 := ⟨ok_X9_dropLateFirst, w3_195, w3_196, w3_197⟩
theorem ok_X9_isFirstDue : okM mX9_isFirstDue 0 := ⟨w3_206, w1_18, ⟨by decide, by decide⟩, by decide +kernel⟩
theorem cv_X11_431_10 : CV RX11 431 RX9 mX9_isFirstDue 0 := ⟨ok_X9_isFirstDue, w3_203, w3_204, w3_205⟩
theorem cv_X11_434_1 : CV RX11 434 RX0 mX4_grantOf 1 := ⟨ok_X4_grantOf, w3_219, w3_193, w7_79⟩
theorem cv_X11_434_5 : CV RX11 434 RX4 mX4_grantOf 1 := ⟨ok_X4_grantOf, w3_219, w3_193, w7_80⟩
theorem cv_X11_434_7 : CV RX11 434 RX6 mX4_grantOf 1 := ⟨ok_X4_grantOf, w3_219, w3_193, w7_81⟩
theorem cv_X11_434_8 : CV RX11 434 RX7 mX4_grantOf 1 := ⟨ok_X4_grantOf, w3_219, w3_193, w7_82⟩
theorem cv_X11_434_10 : CV RX11 434 RX9 mX4_grantOf 1 := ⟨ok_X4_grantOf, w3_219, w3_193, w7_83⟩
theorem ok_X11_answerRefusal : okM mX11_answerRefusal 1 := ⟨w3_223, w1_1, ⟨by decide, by decide⟩, by decide +kernel⟩
theorem cv_X11_438_12 : CV RX11 438 RX11 mX11_answerRefusal 1 := ⟨ok_X11_answerRefusal, w3_220, w3_222, ws_23⟩
theorem ok_X0_fits : okM mX0_fits 3 := ⟨w3_234, w1_16, ⟨by decide, by decide⟩, by decide +kernel⟩
theorem cu_X11_441_1 : CU RX11 441 RX0 "LeaseBoard$Only" ⟨"LeaseBoard$Only", "fits", "(III)Z"⟩ mX0_fits 3 := ⟨ok_X0_fits, w3_228, w3_231, w3_233, w3_232, ⟨by decide, by decide⟩, by decide +kernel, prog_6_method_3_code, 4, (Option.some Jvm.ClassFile.FieldType.boolean), w3_229, w4_19⟩
theorem ok_X4_fits : okM mX4_fits 3 := ⟨w4_19, w1_14, ⟨by decide, by decide⟩, by decide +kernel⟩
theorem cv_X11_441_5 : CV RX11 441 RX4 mX4_fits 3 := ⟨ok_X4_fits, w3_228, w3_229, w3_230⟩
theorem ok_X6_fits : okM mX6_fits 3 := ⟨w4_0, w1_17, ⟨by decide, by decide⟩, by decide +kernel⟩
theorem cu_X11_441_7 : CU RX11 441 RX6 "LeaseBoard$Only" ⟨"LeaseBoard$Only", "fits", "(III)Z"⟩ mX6_fits 3 := ⟨ok_X6_fits, w3_228, w3_231, w3_239, w3_238, ⟨by decide, by decide⟩, by decide +kernel, prog_6_method_3_code, 4, (Option.some Jvm.ClassFile.FieldType.boolean), w3_229, w4_19⟩
theorem ok_X7_fits : okM mX7_fits 3 := ⟨w4_10, w1_15, ⟨by decide, by decide⟩, by decide +kernel⟩
theorem cu_X11_441_8 : CU RX11 441 RX7 "LeaseBoard$Only" ⟨"LeaseBoard$Only", "fits", "(III)Z"⟩ mX7_fits 3 := ⟨ok_X7_fits, w3_228, w3_231, w4_9, w4_8, ⟨by decide, by decide⟩, by decide +kernel, prog_6_method_3_code, 4, (Option.some Jvm.ClassFile.FieldType.boolean), w3_229, w4_19⟩
theorem ok_X9_fits : okM mX9_fits 3 := ⟨w4_18, w1_18, ⟨by decide, by decide⟩, by decide +kernel⟩
theorem cu_X11_441_10 : CU RX11 441 RX9 "LeaseBoard$Only" ⟨"LeaseBoard$Only", "fits", "(III)Z"⟩ mX9_fits 3 := ⟨ok_X9_fits, w3_228, w3_231, w4_17, w4_16, ⟨by decide, by decide⟩, by decide +kernel, prog_6_method_3_code, 4, (Option.some Jvm.ClassFile.FieldType.boolean), w3_229, w4_19⟩
theorem ok_X11_grantAsAsked : okM mX11_grantAsAsked 3 := ⟨w4_24, w1_1, ⟨by decide, by decide⟩, by decide +kernel⟩
theorem cv_X11_444_12 : CV RX11 444 RX11 mX11_grantAsAsked 3 := ⟨ok_X11_grantAsAsked, w4_21, w4_23, ws_24⟩
theorem ok_X11_waitOrRefuse : okM mX11_waitOrRefuse 2 := ⟨w4_78, w1_1, ⟨by decide, by decide⟩, by decide +kernel⟩
theorem cv_X11_447_12 : CV RX11 447 RX11 mX11_waitOrRefuse 2 := ⟨ok_X11_waitOrRefuse, w4_75, w4_77, ws_27⟩
theorem nw_X11_262 : Cond.classLink RX11 262 RX1 ∈ lw_tbl ∧ Cond.instantiable RX1 5 ∈ lw_tbl ∧ Cond.initialized RX1 ∈ lw_tbl := ⟨w4_25, w4_26, w1_22⟩
theorem ok_X1_init : okM mX1_init 3 := ⟨w4_29, w1_22, ⟨by decide, by decide⟩, by decide +kernel⟩
theorem cc_X11_451 : CI RX11 451 mX1_init 3 := ⟨ok_X1_init, w4_27, w4_28, rfl, rfl⟩
theorem ok_X11_giveNumber : okM mX11_giveNumber 3 := ⟨w4_60, w1_1, ⟨by decide, by decide⟩, by decide +kernel⟩
theorem cv_X11_452_12 : CV RX11 452 RX11 mX11_giveNumber 3 := ⟨ok_X11_giveNumber, w4_57, w4_59, ws_25⟩
theorem cv_X11_456_10 : CV RX11 456 RX9 mX9_dropFirst 0 := ⟨ok_X9_dropFirst, w4_70, w3_200, w3_201⟩
theorem ok_X11_answerGrant : okM mX11_answerGrant 2 := ⟨w4_74, w1_1, ⟨by decide, by decide⟩, by decide +kernel⟩
theorem cv_X11_459_12 : CV RX11 459 RX11 mX11_answerGrant 2 := ⟨ok_X11_answerGrant, w4_71, w4_73, ws_26⟩
theorem ok_X9_isQueued : okM mX9_isQueued 1 := ⟨w4_82, w1_18, ⟨by decide, by decide⟩, by decide +kernel⟩
theorem cv_X11_463_10 : CV RX11 463 RX9 mX9_isQueued 1 := ⟨ok_X9_isQueued, w4_79, w4_80, w4_81⟩
theorem ok_X9_isQueueFull : okM mX9_isQueueFull 0 := ⟨w4_86, w1_18, ⟨by decide, by decide⟩, by decide +kernel⟩
theorem cv_X11_466_10 : CV RX11 466 RX9 mX9_isQueueFull 0 := ⟨ok_X9_isQueueFull, w4_83, w4_84, w4_85⟩
theorem ok_X9_join : okM mX9_join 1 := ⟨w4_90, w1_18, ⟨by decide, by decide⟩, by decide +kernel⟩
theorem cv_X11_469_10 : CV RX11 469 RX9 mX9_join 1 := ⟨ok_X9_join, w4_87, w4_88, w4_89⟩
theorem ok_X4_grantMeantBy : okM mX4_grantMeantBy 1 := ⟨w4_103, w1_14, ⟨by decide, by decide⟩, by decide +kernel⟩
theorem cv_X11_473_1 : CV RX11 473 RX0 mX4_grantMeantBy 1 := ⟨ok_X4_grantMeantBy, w4_95, w4_96, w4_99⟩
theorem cv_X11_473_5 : CV RX11 473 RX4 mX4_grantMeantBy 1 := ⟨ok_X4_grantMeantBy, w4_95, w4_96, w4_97⟩
theorem cv_X11_473_7 : CV RX11 473 RX6 mX4_grantMeantBy 1 := ⟨ok_X4_grantMeantBy, w4_95, w4_96, w4_100⟩
theorem cv_X11_473_8 : CV RX11 473 RX7 mX4_grantMeantBy 1 := ⟨ok_X4_grantMeantBy, w4_95, w4_96, w4_101⟩
theorem cv_X11_473_10 : CV RX11 473 RX9 mX4_grantMeantBy 1 := ⟨ok_X4_grantMeantBy, w4_95, w4_96, w4_102⟩
theorem ok_X11_answerLate : okM mX11_answerLate 1 := ⟨w4_108, w1_1, ⟨by decide, by decide⟩, by decide +kernel⟩
theorem cv_X11_477_12 : CV RX11 477 RX11 mX11_answerLate 1 := ⟨ok_X11_answerLate, w4_105, w4_107, ws_29⟩
theorem ok_X4_dropGrantOf : okM mX4_dropGrantOf 1 := ⟨w4_121, w1_14, ⟨by decide, by decide⟩, by decide +kernel⟩
theorem cv_X11_480_1 : CV RX11 480 RX0 mX4_dropGrantOf 1 := ⟨ok_X4_dropGrantOf, w4_113, w4_114, w4_117⟩
theorem cv_X11_480_5 : CV RX11 480 RX4 mX4_dropGrantOf 1 := ⟨ok_X4_dropGrantOf, w4_113, w4_114, w4_115⟩
theorem cv_X11_480_7 : CV RX11 480 RX6 mX4_dropGrantOf 1 := ⟨ok_X4_dropGrantOf, w4_113, w4_114, w4_118⟩
theorem cv_X11_480_8 : CV RX11 480 RX7 mX4_dropGrantOf 1 := ⟨ok_X4_dropGrantOf, w4_113, w4_114, w4_119⟩
theorem cv_X11_480_10 : CV RX11 480 RX9 mX4_dropGrantOf 1 := ⟨ok_X4_dropGrantOf, w4_113, w4_114, w4_120⟩
theorem ok_X11_riseReader : okM mX11_riseReader 4 := ⟨w4_129, w1_1, ⟨by decide, by decide⟩, by decide +kernel⟩
theorem cv_X11_483_12 : CV RX11 483 RX11 mX11_riseReader 4 := ⟨ok_X11_riseReader, w4_126, w4_128, ws_32⟩
theorem fl_X11_487_7 : FL RX11 487 3 7 := ⟨(RX6, TX6, 6), "LeaseBoard$Rising", rfl, by decide, w2_91, Or.inr w2_89⟩
theorem ok_X4_numberAnew : okM mX4_numberAnew 2 := ⟨w4_69, w1_14, ⟨by decide, by decide⟩, by decide +kernel⟩
theorem cv_X11_488_1 : CV RX11 488 RX0 mX4_numberAnew 2 := ⟨ok_X4_numberAnew, w4_61, w4_62, w4_65⟩
theorem cv_X11_488_5 : CV RX11 488 RX4 mX4_numberAnew 2 := ⟨ok_X4_numberAnew, w4_61, w4_62, w4_63⟩
theorem cv_X11_488_7 : CV RX11 488 RX6 mX4_numberAnew 2 := ⟨ok_X4_numberAnew, w4_61, w4_62, w4_66⟩
theorem cv_X11_488_8 : CV RX11 488 RX7 mX4_numberAnew 2 := ⟨ok_X4_numberAnew, w4_61, w4_62, w4_67⟩
theorem cv_X11_488_10 : CV RX11 488 RX9 mX4_numberAnew 2 := ⟨ok_X4_numberAnew, w4_61, w4_62, w4_68⟩
theorem ok_X11_hearGrant : okM mX11_hearGrant 4 := ⟨w4_136, w1_1, ⟨by decide, by decide⟩, by decide +kernel⟩
theorem cs_X11_492 : CS RX11 492 mX11_hearGrant 4 := ⟨ok_X11_hearGrant, w4_134, w4_135⟩
theorem ok_X11_hearRefusal : okM mX11_hearRefusal 2 := ⟨w4_143, w1_1, ⟨by decide, by decide⟩, by decide +kernel⟩
theorem cs_X11_496 : CS RX11 496 mX11_hearRefusal 2 := ⟨ok_X11_hearRefusal, w4_141, w4_142⟩
theorem ok_X11_hearLate : okM mX11_hearLate 2 := ⟨w4_146, w1_1, ⟨by decide, by decide⟩, by decide +kernel⟩
theorem cs_X11_500 : CS RX11 500 mX11_hearLate 2 := ⟨ok_X11_hearLate, w4_144, w4_145⟩
theorem ok_X3_keep : okM mX3_keep 2 := ⟨w4_140, w1_13, ⟨by decide, by decide⟩, by decide +kernel⟩
theorem cv_X11_503_4 : CV RX11 503 RX3 mX3_keep 2 := ⟨ok_X3_keep, w4_137, w4_138, w4_139⟩
theorem ok_X11_isInClash : okM mX11_isInClash 2 := ⟨w4_226, w1_1, ⟨by decide, by decide⟩, by decide +kernel⟩
theorem cv_X11_507_12 : CV RX11 507 RX11 mX11_isInClash 2 := ⟨ok_X11_isInClash, w4_223, w4_225, ws_40⟩
theorem ca_X11_390_1 : castOK RX11 390 1 := ⟨(RX0, TX0, 6), "LeaseBoard$Shared", rfl, w2_62, Or.inr w7_89⟩
theorem ca_X11_390_8 : castOK RX11 390 8 := ⟨(RX7, TX7, 5), "LeaseBoard$Shared", rfl, w2_62, Or.inl rfl⟩
theorem cx_X11_390_5 : castNo RX11 390 5 := ⟨(RX4, TX4, 5), "LeaseBoard$Shared", rfl, w2_62, by decide +kernel⟩
theorem cx_X11_390_7 : castNo RX11 390 7 := ⟨(RX6, TX6, 6), "LeaseBoard$Shared", rfl, w2_62, by decide +kernel⟩
theorem cx_X11_390_10 : castNo RX11 390 10 := ⟨(RX9, TX9, 9), "LeaseBoard$Shared", rfl, w2_62, by decide +kernel⟩
theorem ok_X8_isEmpty : okM mX8_isEmpty 0 := ⟨w5_37, w1_6, ⟨by decide, by decide⟩, by decide +kernel⟩
theorem cv_X11_511_9 : CV RX11 511 RX8 mX8_isEmpty 0 := ⟨ok_X8_isEmpty, w5_34, w5_35, w5_36⟩
theorem ok_X11_isOfKind : okM mX11_isOfKind 2 := ⟨w5_29, w1_1, ⟨by decide, by decide⟩, by decide +kernel⟩
theorem cs_X11_514 : CS RX11 514 mX11_isOfKind 2 := ⟨ok_X11_isOfKind, w5_27, w5_28⟩
theorem ok_X11_refuseSort : okM mX11_refuseSort 1 := ⟨w5_33, w1_1, ⟨by decide, by decide⟩, by decide +kernel⟩
theorem cv_X11_517_12 : CV RX11 517 RX11 mX11_refuseSort 1 := ⟨ok_X11_refuseSort, w5_30, w5_32, ws_47⟩
theorem nw_L_7 : Cond.classLink RL 7 RX11 ∈ lw_tbl ∧ Cond.instantiable RX11 18 ∈ lw_tbl ∧ Cond.initialized RX11 ∈ lw_tbl := ⟨w1_23, w1_24, w1_1⟩
theorem ok_L_cell : okM mL_cell 2 := ⟨w5_64, w1_0, ⟨by decide, by decide⟩, by decide +kernel⟩
theorem cs_L_9 : CS RL 9 mL_cell 2 := ⟨ok_L_cell, w5_62, w5_63⟩
theorem ok_X11_init : okM mX11_init 1 := ⟨w1_27, w1_1, ⟨by decide, by decide⟩, by decide +kernel⟩
theorem cc_L_15 : CI RL 15 mX11_init 1 := ⟨ok_X11_init, w1_25, w1_26, rfl, rfl⟩
theorem nw_L_18 : Cond.classLink RL 18 RX12 ∈ lw_tbl ∧ Cond.instantiable RX12 59 ∈ lw_tbl ∧ Cond.initialized RX12 ∈ lw_tbl := ⟨w5_65, w5_66, w1_7⟩
theorem ok_X12_init : okM mX12_init 1 := ⟨w5_69, w1_7, ⟨by decide, by decide⟩, by decide +kernel⟩
theorem cc_L_20 : CI RL 20 mX12_init 1 := ⟨ok_X12_init, w5_67, w5_68, rfl, rfl⟩
theorem ok_X11_keeper : okM mX11_keeper 2 := ⟨w1_148, w1_1, ⟨by decide, by decide⟩, by decide +kernel⟩
theorem cv_L_21_12 : CV RL 21 RX11 mX11_keeper 2 := ⟨ok_X11_keeper, w1_145, w1_146, w1_147⟩
theorem ok_X12_keeper : okM mX12_keeper 2 := ⟨w6_12, w1_7, ⟨by decide, by decide⟩, by decide +kernel⟩
theorem cv_L_25_13 : CV RL 25 RX12 mX12_keeper 2 := ⟨ok_X12_keeper, w6_9, w6_10, w6_11⟩
theorem ok_X11_worker : okM mX11_worker 2 := ⟨w2_1, w1_1, ⟨by decide, by decide⟩, by decide +kernel⟩
theorem cv_L_26_12 : CV RL 26 RX11 mX11_worker 2 := ⟨ok_X11_worker, w1_238, w1_239, w2_0⟩
theorem ok_X12_worker : okM mX12_worker 2 := ⟨w6_25, w1_7, ⟨by decide, by decide⟩, by decide +kernel⟩
theorem cv_L_29_13 : CV RL 29 RX12 mX12_worker 2 := ⟨ok_X12_worker, w6_22, w6_23, w6_24⟩
theorem ok_X11_thing : okM mX11_thing 3 := ⟨w2_54, w1_1, ⟨by decide, by decide⟩, by decide +kernel⟩
theorem cv_L_30_12 : CV RL 30 RX11 mX11_thing 3 := ⟨ok_X11_thing, w2_51, w2_52, w2_53⟩
theorem ok_X12_thing : okM mX12_thing 3 := ⟨w6_29, w1_7, ⟨by decide, by decide⟩, by decide +kernel⟩
theorem cv_L_34_13 : CV RL 34 RX12 mX12_thing 3 := ⟨ok_X12_thing, w6_26, w6_27, w6_28⟩
theorem ok_X11_store : okM mX11_store 0 := ⟨w2_175, w1_1, ⟨by decide, by decide⟩, by decide +kernel⟩
theorem cv_L_35_12 : CV RL 35 RX11 mX11_store 0 := ⟨ok_X11_store, w2_172, w2_173, w2_174⟩
theorem ok_X12_store : okM mX12_store 0 := ⟨w6_33, w1_7, ⟨by decide, by decide⟩, by decide +kernel⟩
theorem cv_L_39_13 : CV RL 39 RX12 mX12_store 0 := ⟨ok_X12_store, w6_30, w6_31, w6_32⟩
theorem ok_X11_tick : okM mX11_tick 1 := ⟨w2_179, w1_1, ⟨by decide, by decide⟩, by decide +kernel⟩
theorem cv_L_40_12 : CV RL 40 RX11 mX11_tick 1 := ⟨ok_X11_tick, w2_176, w2_177, w2_178⟩
theorem ok_X12_tick : okM mX12_tick 1 := ⟨w6_37, w1_7, ⟨by decide, by decide⟩, by decide +kernel⟩
theorem cv_L_44_13 : CV RL 44 RX12 mX12_tick 1 := ⟨ok_X12_tick, w6_34, w6_35, w6_36⟩
theorem ok_X11_clock : okM mX11_clock 2 := ⟨w2_185, w1_1, ⟨by decide, by decide⟩, by decide +kernel⟩
theorem cv_L_45_12 : CV RL 45 RX11 mX11_clock 2 := ⟨ok_X11_clock, w2_182, w2_183, w2_184⟩
theorem ok_X12_clock : okM mX12_clock 2 := ⟨w6_43, w1_7, ⟨by decide, by decide⟩, by decide +kernel⟩
theorem cv_L_49_13 : CV RL 49 RX12 mX12_clock 2 := ⟨ok_X12_clock, w6_40, w6_41, w6_42⟩
theorem ok_X11_wake : okM mX11_wake 3 := ⟨w2_223, w1_1, ⟨by decide, by decide⟩, by decide +kernel⟩
theorem cv_L_50_12 : CV RL 50 RX11 mX11_wake 3 := ⟨ok_X11_wake, w2_220, w2_221, w2_222⟩
theorem ok_X12_wake : okM mX12_wake 3 := ⟨w6_65, w1_7, ⟨by decide, by decide⟩, by decide +kernel⟩
theorem cv_L_54_13 : CV RL 54 RX12 mX12_wake 3 := ⟨ok_X12_wake, w6_62, w6_63, w6_64⟩
theorem ok_X11_fall : okM mX11_fall 1 := ⟨w2_227, w1_1, ⟨by decide, by decide⟩, by decide +kernel⟩
theorem cv_L_55_12 : CV RL 55 RX11 mX11_fall 1 := ⟨ok_X11_fall, w2_224, w2_225, w2_226⟩
theorem ok_X12_fall : okM mX12_fall 1 := ⟨w6_69, w1_7, ⟨by decide, by decide⟩, by decide +kernel⟩
theorem cv_L_58_13 : CV RL 58 RX12 mX12_fall 1 := ⟨ok_X12_fall, w6_66, w6_67, w6_68⟩
theorem ok_X11_lead : okM mX11_lead 1 := ⟨w2_239, w1_1, ⟨by decide, by decide⟩, by decide +kernel⟩
theorem cv_L_59_12 : CV RL 59 RX11 mX11_lead 1 := ⟨ok_X11_lead, w2_236, w2_237, w2_238⟩
theorem ok_X12_lead : okM mX12_lead 1 := ⟨w6_73, w1_7, ⟨by decide, by decide⟩, by decide +kernel⟩
theorem cv_L_62_13 : CV RL 62 RX12 mX12_lead 1 := ⟨ok_X12_lead, w6_70, w6_71, w6_72⟩
theorem ok_X11_ask : okM mX11_ask 5 := ⟨w3_31, w1_1, ⟨by decide, by decide⟩, by decide +kernel⟩
theorem cv_L_63_12 : CV RL 63 RX11 mX11_ask 5 := ⟨ok_X11_ask, w3_28, w3_29, w3_30⟩
theorem ok_X12_ask : okM mX12_ask 5 := ⟨w6_89, w1_7, ⟨by decide, by decide⟩, by decide +kernel⟩
theorem cv_L_67_13 : CV RL 67 RX12 mX12_ask 5 := ⟨ok_X12_ask, w6_86, w6_87, w6_88⟩
theorem ok_X11_renew : okM mX11_renew 3 := ⟨w3_130, w1_1, ⟨by decide, by decide⟩, by decide +kernel⟩
theorem cv_L_68_12 : CV RL 68 RX11 mX11_renew 3 := ⟨ok_X11_renew, w3_127, w3_128, w3_129⟩
theorem ok_X12_renew : okM mX12_renew 3 := ⟨w6_109, w1_7, ⟨by decide, by decide⟩, by decide +kernel⟩
theorem cv_L_71_13 : CV RL 71 RX12 mX12_renew 3 := ⟨ok_X12_renew, w6_106, w6_107, w6_108⟩
theorem ok_X11_end : okM mX11_end 3 := ⟨w3_138, w1_1, ⟨by decide, by decide⟩, by decide +kernel⟩
theorem cv_L_72_12 : CV RL 72 RX11 mX11_end 3 := ⟨ok_X11_end, w3_135, w3_136, w3_137⟩
theorem ok_X12_end : okM mX12_end 3 := ⟨w6_113, w1_7, ⟨by decide, by decide⟩, by decide +kernel⟩
theorem cv_L_75_13 : CV RL 75 RX12 mX12_end 3 := ⟨ok_X12_end, w6_110, w6_111, w6_112⟩
theorem ok_X11_rise : okM mX11_rise 3 := ⟨w3_142, w1_1, ⟨by decide, by decide⟩, by decide +kernel⟩
theorem cv_L_76_12 : CV RL 76 RX11 mX11_rise 3 := ⟨ok_X11_rise, w3_139, w3_140, w3_141⟩
theorem ok_X12_rise : okM mX12_rise 3 := ⟨w6_117, w1_7, ⟨by decide, by decide⟩, by decide +kernel⟩
theorem cv_L_79_13 : CV RL 79 RX12 mX12_rise 3 := ⟨ok_X12_rise, w6_114, w6_115, w6_116⟩
theorem ok_X11_deliver : okM mX11_deliver 1 := ⟨w3_146, w1_1, ⟨by decide, by decide⟩, by decide +kernel⟩
theorem cv_L_80_12 : CV RL 80 RX11 mX11_deliver 1 := ⟨ok_X11_deliver, w3_143, w3_144, w3_145⟩
theorem ok_X12_deliver : okM mX12_deliver 1 := ⟨w6_141, w1_7, ⟨by decide, by decide⟩, by decide +kernel⟩
theorem cv_L_83_13 : CV RL 83 RX12 mX12_deliver 1 := ⟨ok_X12_deliver, w6_138, w6_139, w6_140⟩
theorem ok_X11_lose : okM mX11_lose 1 := ⟨w4_150, w1_1, ⟨by decide, by decide⟩, by decide +kernel⟩
theorem cv_L_84_12 : CV RL 84 RX11 mX11_lose 1 := ⟨ok_X11_lose, w4_147, w4_148, w4_149⟩
theorem ok_X12_lose : okM mX12_lose 1 := ⟨w6_121, w1_7, ⟨by decide, by decide⟩, by decide +kernel⟩
theorem cv_L_87_13 : CV RL 87 RX12 mX12_lose 1 := ⟨ok_X12_lose, w6_118, w6_119, w6_120⟩
theorem ok_X11_twice : okM mX11_twice 1 := ⟨w4_154, w1_1, ⟨by decide, by decide⟩, by decide +kernel⟩
theorem cv_L_88_12 : CV RL 88 RX11 mX11_twice 1 := ⟨ok_X11_twice, w4_151, w4_152, w4_153⟩
theorem ok_X12_twice : okM mX12_twice 1 := ⟨w6_129, w1_7, ⟨by decide, by decide⟩, by decide +kernel⟩
theorem cv_L_91_13 : CV RL 91 RX12 mX12_twice 1 := ⟨ok_X12_twice, w6_126, w6_127, w6_128⟩
theorem ok_X11_letter : okM mX11_letter 2 := ⟨w4_158, w1_1, ⟨by decide, by decide⟩, by decide +kernel⟩
theorem cv_L_92_12 : CV RL 92 RX11 mX11_letter 2 := ⟨ok_X11_letter, w4_155, w4_156, w4_157⟩
theorem ok_X12_letter : okM mX12_letter 2 := ⟨w6_133, w1_7, ⟨by decide, by decide⟩, by decide +kernel⟩
theorem cv_L_95_13 : CV RL 95 RX12 mX12_letter 2 := ⟨ok_X12_letter, w6_130, w6_131, w6_132⟩
theorem ok_X11_wrote : okM mX11_wrote 2 := ⟨w4_162, w1_1, ⟨by decide, by decide⟩, by decide +kernel⟩
theorem cv_L_96_12 : CV RL 96 RX11 mX11_wrote 2 := ⟨ok_X11_wrote, w4_159, w4_160, w4_161⟩
theorem ok_X12_wrote : okM mX12_wrote 2 := ⟨w6_137, w1_7, ⟨by decide, by decide⟩, by decide +kernel⟩
theorem cv_L_99_13 : CV RL 99 RX12 mX12_wrote 2 := ⟨ok_X12_wrote, w6_134, w6_135, w6_136⟩
theorem ok_X11_look : okM mX11_look 1 := ⟨w4_166, w1_1, ⟨by decide, by decide⟩, by decide +kernel⟩
theorem cv_L_100_12 : CV RL 100 RX11 mX11_look 1 := ⟨ok_X11_look, w4_163, w4_164, w4_165⟩
theorem ok_X12_look : okM mX12_look 1 := ⟨w6_221, w1_7, ⟨by decide, by decide⟩, by decide +kernel⟩
theorem cv_L_103_13 : CV RL 103 RX12 mX12_look 1 := ⟨ok_X12_look, w6_218, w6_219, w6_220⟩
theorem ok_X11_grant : okM mX11_grant 3 := ⟨w4_170, w1_1, ⟨by decide, by decide⟩, by decide +kernel⟩
theorem cv_L_104_12 : CV RL 104 RX11 mX11_grant 3 := ⟨ok_X11_grant, w4_167, w4_168, w4_169⟩
theorem ok_X12_grant : okM mX12_grant 3 := ⟨w6_225, w1_7, ⟨by decide, by decide⟩, by decide +kernel⟩
theorem cv_L_107_13 : CV RL 107 RX12 mX12_grant 3 := ⟨ok_X12_grant, w6_222, w6_223, w6_224⟩
theorem ok_X11_ends : okM mX11_ends 3 := ⟨w4_178, w1_1, ⟨by decide, by decide⟩, by decide +kernel⟩
theorem cv_L_108_12 : CV RL 108 RX11 mX11_ends 3 := ⟨ok_X11_ends, w4_175, w4_176, w4_177⟩
theorem ok_X12_ends : okM mX12_ends 3 := ⟨w6_229, w1_7, ⟨by decide, by decide⟩, by decide +kernel⟩
theorem cv_L_112_13 : CV RL 112 RX12 mX12_ends 3 := ⟨ok_X12_ends, w6_226, w6_227, w6_228⟩
theorem ok_X11_told : okM mX11_told 2 := ⟨w4_182, w1_1, ⟨by decide, by decide⟩, by decide +kernel⟩
theorem cv_L_113_12 : CV RL 113 RX11 mX11_told 2 := ⟨ok_X11_told, w4_179, w4_180, w4_181⟩
theorem ok_X12_told : okM mX12_told 2 := ⟨w6_233, w1_7, ⟨by decide, by decide⟩, by decide +kernel⟩
theorem cv_L_116_13 : CV RL 116 RX12 mX12_told 2 := ⟨ok_X12_told, w6_230, w6_231, w6_232⟩
theorem ok_X11_holds : okM mX11_holds 3 := ⟨w4_194, w1_1, ⟨by decide, by decide⟩, by decide +kernel⟩
theorem cv_L_117_12 : CV RL 117 RX11 mX11_holds 3 := ⟨ok_X11_holds, w4_191, w4_192, w4_193⟩
theorem ok_X12_holds : okM mX12_holds 3 := ⟨w7_5, w1_7, ⟨by decide, by decide⟩, by decide +kernel⟩
theorem cv_L_120_13 : CV RL 120 RX12 mX12_holds 3 := ⟨ok_X12_holds, w7_2, w7_3, w7_4⟩
theorem ok_X11_held : okM mX11_held 3 := ⟨w4_198, w1_1, ⟨by decide, by decide⟩, by decide +kernel⟩
theorem cv_L_121_12 : CV RL 121 RX11 mX11_held 3 := ⟨ok_X11_held, w4_195, w4_196, w4_197⟩
theorem ok_X12_held : okM mX12_held 3 := ⟨w7_9, w1_7, ⟨by decide, by decide⟩, by decide +kernel⟩
theorem cv_L_124_13 : CV RL 124 RX12 mX12_held 3 := ⟨ok_X12_held, w7_6, w7_7, w7_8⟩
theorem ok_X11_write : okM mX11_write 4 := ⟨w4_202, w1_1, ⟨by decide, by decide⟩, by decide +kernel⟩
theorem cv_L_127_12 : CV RL 127 RX11 mX11_write 4 := ⟨ok_X11_write, w4_199, w4_200, w4_201⟩
theorem ok_X12_write : okM mX12_write 4 := ⟨w7_13, w1_7, ⟨by decide, by decide⟩, by decide +kernel⟩
theorem cv_L_131_13 : CV RL 131 RX12 mX12_write 4 := ⟨ok_X12_write, w7_10, w7_11, w7_12⟩
theorem ok_X11_stored : okM mX11_stored 3 := ⟨w4_210, w1_1, ⟨by decide, by decide⟩, by decide +kernel⟩
theorem cv_L_132_12 : CV RL 132 RX11 mX11_stored 3 := ⟨ok_X11_stored, w4_207, w4_208, w4_209⟩
theorem ok_X12_stored : okM mX12_stored 3 := ⟨w7_21, w1_7, ⟨by decide, by decide⟩, by decide +kernel⟩
theorem cv_L_135_13 : CV RL 135 RX12 mX12_stored 3 := ⟨ok_X12_stored, w7_18, w7_19, w7_20⟩
theorem ok_X11_count : okM mX11_count 1 := ⟨w4_214, w1_1, ⟨by decide, by decide⟩, by decide +kernel⟩
theorem cv_L_136_12 : CV RL 136 RX11 mX11_count 1 := ⟨ok_X11_count, w4_211, w4_212, w4_213⟩
theorem ok_X12_count : okM mX12_count 1 := ⟨w7_25, w1_7, ⟨by decide, by decide⟩, by decide +kernel⟩
theorem cv_L_139_13 : CV RL 139 RX12 mX12_count 1 := ⟨ok_X12_count, w7_22, w7_23, w7_24⟩
theorem ok_X11_put : okM mX11_put 3 := ⟨w4_230, w1_1, ⟨by decide, by decide⟩, by decide +kernel⟩
theorem cv_L_140_12 : CV RL 140 RX11 mX11_put 3 := ⟨ok_X11_put, w4_227, w4_228, w4_229⟩
theorem ok_X12_put : okM mX12_put 3 := ⟨w7_37, w1_7, ⟨by decide, by decide⟩, by decide +kernel⟩
theorem cv_L_143_13 : CV RL 143 RX12 mX12_put 3 := ⟨ok_X12_put, w7_34, w7_35, w7_36⟩
theorem ok_X11_forge : okM mX11_forge 3 := ⟨w5_19, w1_1, ⟨by decide, by decide⟩, by decide +kernel⟩
theorem cv_L_144_12 : CV RL 144 RX11 mX11_forge 3 := ⟨ok_X11_forge, w5_16, w5_17, w5_18⟩
theorem ok_X12_forge : okM mX12_forge 3 := ⟨w7_49, w1_7, ⟨by decide, by decide⟩, by decide +kernel⟩
theorem cv_L_147_13 : CV RL 147 RX12 mX12_forge 3 := ⟨ok_X12_forge, w7_46, w7_47, w7_48⟩
theorem ok_X11_status : okM mX11_status 0 := ⟨w5_61, w1_1, ⟨by decide, by decide⟩, by decide +kernel⟩
theorem cv_L_148_12 : CV RL 148 RX11 mX11_status 0 := ⟨ok_X11_status, w5_58, w5_59, w5_60⟩
theorem ok_X12_status : okM mX12_status 0 := ⟨w7_76, w1_7, ⟨by decide, by decide⟩, by decide +kernel⟩
theorem cv_L_151_13 : CV RL 151 RX12 mX12_status 0 := ⟨ok_X12_status, w7_73, w7_74, w7_75⟩
