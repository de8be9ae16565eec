abbrev mX0_init : Yt := (yX0_init, cX0_init, 1, none, (1, 20), (8, 76), false)
abbrev mX0_isNote : Yt := (yX0_isNote, cX0_isNote, 2, (some .boolean), (0, 0), (0, 0), false)
abbrev mX0_isUse : Yt := (yX0_isUse, cX0_isUse, 1, (some .boolean), (0, 0), (0, 0), false)
abbrev mX0_isCost : Yt := (yX0_isCost, cX0_isCost, 1, (some .boolean), (0, 0), (0, 0), false)
abbrev mX0_isLook : Yt := (yX0_isLook, cX0_isLook, 1, (some .boolean), (0, 0), (0, 0), false)
abbrev mX0_isSure : Yt := (yX0_isSure, cX0_isSure, 1, (some .boolean), (0, 0), (0, 0), false)
abbrev mX0_isLost : Yt := (yX0_isLost, cX0_isLost, 1, (some .boolean), (0, 0), (0, 0), false)
abbrev mX0_packedNote : Yt := (yX0_packedNote, cX0_packedNote, 2, (some .int), (0, 0), (0, 0), false)
abbrev mX0_takeAll : Yt := (yX0_takeAll, cX0_takeAll, 2, none, (1, 40), (0, 0), false)
abbrev mX0_isCall : Yt := (yX0_isCall, cX0_isCall, 2, (some .boolean), (0, 0), (0, 0), false)
abbrev mX0_isEar : Yt := (yX0_isEar, cX0_isEar, 2, (some .boolean), (0, 0), (0, 0), false)
abbrev mX0_isMan : Yt := (yX0_isMan, cX0_isMan, 2, (some .boolean), (0, 0), (0, 0), false)
abbrev mX0_hasRoomForCall : Yt := (yX0_hasRoomForCall, cX0_hasRoomForCall, 1, (some .boolean), (0, 0), (0, 0), false)
abbrev mX0_hasRoomForEar : Yt := (yX0_hasRoomForEar, cX0_hasRoomForEar, 1, (some .boolean), (0, 0), (0, 0), false)
abbrev mX0_hasRoomForMan : Yt := (yX0_hasRoomForMan, cX0_hasRoomForMan, 1, (some .boolean), (0, 0), (0, 0), false)
abbrev mX0_addCall : Yt := (yX0_addCall, cX0_addCall, 3, (some .int), (0, 0), (0, 0), false)
abbrev mX0_addNote : Yt := (yX0_addNote, cX0_addNote, 3, none, (1, 21), (0, 0), false)
abbrev mX0_removeLastCall : Yt := (yX0_removeLastCall, cX0_removeLastCall, 1, (some .int), (0, 0), (0, 0), false)
abbrev mX0_addEar : Yt := (yX0_addEar, cX0_addEar, 3, (some .int), (0, 0), (0, 0), false)
abbrev mX0_addMan : Yt := (yX0_addMan, cX0_addMan, 3, (some .int), (0, 0), (0, 0), false)
abbrev mX0_sizeOf : Yt := (yX0_sizeOf, cX0_sizeOf, 2, (some .int), (0, 0), (0, 0), false)
abbrev mX0_packedOf : Yt := (yX0_packedOf, cX0_packedOf, 2, (some .int), (0, 0), (0, 0), false)
abbrev mX0_useOf : Yt := (yX0_useOf, cX0_useOf, 2, (some .int), (0, 0), (0, 0), false)
abbrev mX0_costOf : Yt := (yX0_costOf, cX0_costOf, 2, (some .int), (0, 0), (0, 0), false)
abbrev mX0_isNoteOf : Yt := (yX0_isNoteOf, cX0_isNoteOf, 3, (some .boolean), (1, 21), (0, 0), false)
abbrev mX0_noteAt : Yt := (yX0_noteAt, cX0_noteAt, 3, (some .int), (0, 0), (0, 0), false)
abbrev mX0_kindOf : Yt := (yX0_kindOf, cX0_kindOf, 2, (some .int), (0, 0), (0, 0), false)
abbrev mX0_strengthOf : Yt := (yX0_strengthOf, cX0_strengthOf, 2, (some .int), (0, 0), (0, 0), false)
abbrev mX0_earOfMan : Yt := (yX0_earOfMan, cX0_earOfMan, 2, (some .int), (0, 0), (0, 0), false)
abbrev mX0_lookOf : Yt := (yX0_lookOf, cX0_lookOf, 2, (some .int), (0, 0), (0, 0), false)
abbrev mX0_changeUse : Yt := (yX0_changeUse, cX0_changeUse, 4, (some .int), (1, 21), (0, 0), false)
abbrev mX0_changeCost : Yt := (yX0_changeCost, cX0_changeCost, 4, (some .int), (1, 21), (0, 0), false)
abbrev mX0_countNotes : Yt := (yX0_countNotes, cX0_countNotes, 3, (some .int), (1, 21), (0, 0), false)
abbrev mX0_countNote : Yt := (yX0_countNote, cX0_countNote, 5, (some .int), (1, 22), (0, 0), false)
abbrev mX0_sumUses : Yt := (yX0_sumUses, cX0_sumUses, 3, (some .int), (1, 21), (0, 0), false)
abbrev mX0_countLookers : Yt := (yX0_countLookers, cX0_countLookers, 3, (some .int), (1, 21), (0, 0), false)
abbrev mX0_learnedAt : Yt := (yX0_learnedAt, cX0_learnedAt, 3, (some .int), (2, 46), (0, 0), false)
abbrev mX0_countLearnedAhead : Yt := (yX0_countLearnedAhead, cX0_countLearnedAhead, 6, (some .int), (1, 21), (0, 0), false)
abbrev mX0_drawBelow : Yt := (yX0_drawBelow, cX0_drawBelow, 2, (some .int), (0, 0), (0, 0), false)
abbrev mX1_init : Yt := (yX1_init, cX1_init, 1, none, (1, 20), (4, 36), false)
abbrev mX1_hearAndDo : Yt := (yX1_hearAndDo, cX1_hearAndDo, 4, none, (5, 124), (0, 0), false)
abbrev mX1_hearAll : Yt := (yX1_hearAll, cX1_hearAll, 6, none, (4, 99), (0, 0), false)
abbrev mX1_doAll : Yt := (yX1_doAll, cX1_doAll, 5, none, (1, 23), (0, 0), false)
abbrev mX1_countDeed : Yt := (yX1_countDeed, cX1_countDeed, 2, none, (0, 0), (0, 0), false)
abbrev mX1_mostDone : Yt := (yX1_mostDone, cX1_mostDone, 4, (some .int), (0, 0), (0, 0), false)
abbrev mX1_deedOf : Yt := (yX1_deedOf, cX1_deedOf, 2, (some .int), (0, 0), (0, 0), false)
abbrev mX1_countDoing : Yt := (yX1_countDoing, cX1_countDoing, 4, (some .int), (1, 21), (0, 0), false)
abbrev mX1_firstNotDoing : Yt := (yX1_firstNotDoing, cX1_firstNotDoing, 3, (some .int), (1, 21), (0, 0), false)
abbrev mX1_notByGuess : Yt := (yX1_notByGuess, cX1_notByGuess, 3, (some .int), (0, 0), (0, 0), false)
abbrev mX1_leastSure : Yt := (yX1_leastSure, cX1_leastSure, 5, (some .int), (5, 124), (0, 0), false)
abbrev mX2_init : Yt := (yX2_init, cX2_init, 1, none, (1, 20), (1, 8), false)
abbrev mX2_noteAt : Yt := (yX2_noteAt, cX2_noteAt, 2, (some .int), (0, 0), (0, 0), false)
abbrev mX2_cutTo : Yt := (yX2_cutTo, cX2_cutTo, 3, none, (1, 21), (0, 0), false)
abbrev mX2_putNote : Yt := (yX2_putNote, cX2_putNote, 3, none, (0, 0), (0, 0), false)
abbrev mX2_takeShelf : Yt := (yX2_takeShelf, cX2_takeShelf, 5, none, (2, 43), (0, 0), false)
abbrev mX2_takeCall : Yt := (yX2_takeCall, cX2_takeCall, 5, none, (2, 48), (0, 0), false)
abbrev mX2_takeSounded : Yt := (yX2_takeSounded, cX2_takeSounded, 6, (some .int), (2, 43), (0, 0), false)
abbrev mX3_isKind : Yt := (yX3_isKind, cX3_isKind, 1, (some .boolean), (0, 0), (0, 0), false)
abbrev mX3_isStrength : Yt := (yX3_isStrength, cX3_isStrength, 1, (some .boolean), (0, 0), (0, 0), false)
abbrev mX3_isUnder : Yt := (yX3_isUnder, cX3_isUnder, 2, (some .boolean), (0, 0), (0, 0), false)
abbrev mX3_isTornAway : Yt := (yX3_isTornAway, cX3_isTornAway, 4, (some .boolean), (0, 0), (0, 0), false)
abbrev mX3_isEchoed : Yt := (yX3_isEchoed, cX3_isEchoed, 3, (some .boolean), (0, 0), (0, 0), false)
abbrev mX3_changedNote : Yt := (yX3_changedNote, cX3_changedNote, 2, (some .int), (0, 0), (0, 0), false)
abbrev mX3_tellOf : Yt := (yX3_tellOf, cX3_tellOf, 3, (some .int), (2, 46), (0, 0), false)
abbrev mX3_countTornAway : Yt := (yX3_countTornAway, cX3_countTornAway, 4, (some .int), (1, 23), (0, 0), false)
abbrev mX3_countEchoed : Yt := (yX3_countEchoed, cX3_countEchoed, 4, (some .int), (1, 22), (0, 0), false)
abbrev mX4_init : Yt := (yX4_init, cX4_init, 1, none, (1, 20), (1, 12), false)
abbrev mX4_distance : Yt := (yX4_distance, cX4_distance, 3, (some .int), (1, 20), (0, 0), false)
abbrev mX4_sameStart : Yt := (yX4_sameStart, cX4_sameStart, 5, (some .int), (1, 22), (0, 0), false)
abbrev mX4_countTwins : Yt := (yX4_countTwins, cX4_countTwins, 3, (some .int), (3, 66), (0, 0), false)
abbrev mX4_nearestPair : Yt := (yX4_nearestPair, cX4_nearestPair, 6, (some .int), (2, 42), (0, 0), false)
abbrev mX4_pairDistance : Yt := (yX4_pairDistance, cX4_pairDistance, 2, (some .int), (2, 42), (0, 0), false)
abbrev mX4_isClear : Yt := (yX4_isClear, cX4_isClear, 5, (some .boolean), (2, 42), (0, 0), false)
abbrev mX4_countRows : Yt := (yX4_countRows, cX4_countRows, 3, (some .int), (0, 0), (0, 0), false)
abbrev mX4_packedRow : Yt := (yX4_packedRow, cX4_packedRow, 5, (some .int), (1, 21), (0, 0), false)
abbrev mX4_firstFresh : Yt := (yX4_firstFresh, cX4_firstFresh, 5, (some .int), (3, 66), (0, 0), false)
abbrev mX4_fewestChanges : Yt := (yX4_fewestChanges, cX4_fewestChanges, 9, (some .int), (3, 66), (0, 0), false)
abbrev mX4_bestSet : Yt := (yX4_bestSet, cX4_bestSet, 7, (some .int), (3, 67), (0, 0), false)
abbrev mX4_findTooNear : Yt := (yX4_findTooNear, cX4_findTooNear, 6, none, (2, 42), (0, 0), false)
abbrev mX4_usesIfKept : Yt := (yX4_usesIfKept, cX4_usesIfKept, 5, (some .int), (1, 21), (0, 0), false)
abbrev mX5_readCamp : Yt := (yX5_readCamp, cX5_readCamp, 3, (some .int), (7, 149), (0, 0), false)
abbrev mX5_isStatementRead : Yt := (yX5_isStatementRead, cX5_isStatementRead, 2, (some .boolean), (6, 128), (0, 0), false)
abbrev mX5_isCallRead : Yt := (yX5_isCallRead, cX5_isCallRead, 6, (some .boolean), (3, 64), (0, 0), false)
abbrev mX5_isEarRead : Yt := (yX5_isEarRead, cX5_isEarRead, 4, (some .boolean), (2, 43), (0, 0), false)
abbrev mX5_isManRead : Yt := (yX5_isManRead, cX5_isManRead, 4, (some .boolean), (2, 43), (0, 0), false)
abbrev mX5_isSureRead : Yt := (yX5_isSureRead, cX5_isSureRead, 3, (some .boolean), (2, 43), (0, 0), false)
abbrev mX5_isLostRead : Yt := (yX5_isLostRead, cX5_isLostRead, 3, (some .boolean), (2, 43), (0, 0), false)
abbrev mX5_isUseRead : Yt := (yX5_isUseRead, cX5_isUseRead, 4, (some .boolean), (2, 44), (0, 0), false)
abbrev mX6_noteByEar : Yt := (yX6_noteByEar, cX6_noteByEar, 6, (some .int), (1, 23), (0, 0), false)
abbrev mX6_isFit : Yt := (yX6_isFit, cX6_isFit, 8, (some .boolean), (2, 48), (0, 0), false)
abbrev mX6_usesThatFit : Yt := (yX6_usesThatFit, cX6_usesThatFit, 5, (some .int), (3, 75), (0, 0), false)
abbrev mX6_likelyOf : Yt := (yX6_likelyOf, cX6_likelyOf, 4, (some .int), (4, 99), (0, 0), false)
abbrev mX6_perThousand : Yt := (yX6_perThousand, cX6_perThousand, 2, (some .int), (0, 0), (0, 0), false)
abbrev mX6_guessOf : Yt := (yX6_guessOf, cX6_guessOf, 5, (some .int), (3, 75), (0, 0), false)
abbrev mX6_fitsAnother : Yt := (yX6_fitsAnother, cX6_fitsAnother, 5, (some .boolean), (3, 75), (0, 0), false)
abbrev mX6_countedBehind : Yt := (yX6_countedBehind, cX6_countedBehind, 6, (some .int), (4, 99), (0, 0), false)
abbrev mX6_bestEar : Yt := (yX6_bestEar, cX6_bestEar, 7, (some .int), (5, 124), (0, 0), false)
abbrev mX6_meanBehind : Yt := (yX6_meanBehind, cX6_meanBehind, 5, (some .int), (5, 124), (0, 0), false)
abbrev mX6_riskOf : Yt := (yX6_riskOf, cX6_riskOf, 6, (some .int), (4, 99), (0, 0), false)
abbrev mX6_riskiest : Yt := (yX6_riskiest, cX6_riskiest, 7, (some .int), (5, 124), (0, 0), false)
abbrev mX6_nextBits : Yt := (yX6_nextBits, cX6_nextBits, 5, (some .int), (3, 75), (0, 0), false)
abbrev mX6_nextBit : Yt := (yX6_nextBit, cX6_nextBit, 5, (some .int), (2, 48), (0, 0), false)
abbrev mX6_areMixed : Yt := (yX6_areMixed, cX6_areMixed, 5, (some .boolean), (3, 75), (0, 0), false)
abbrev mX6_countMixed : Yt := (yX6_countMixed, cX6_countMixed, 6, (some .int), (4, 99), (0, 0), false)
abbrev mX6_firstMixed : Yt := (yX6_firstMixed, cX6_firstMixed, 5, (some .int), (4, 99), (0, 0), false)
abbrev mX6_differences : Yt := (yX6_differences, cX6_differences, 7, (some .int), (1, 22), (0, 0), false)
abbrev mX6_nearestCall : Yt := (yX6_nearestCall, cX6_nearestCall, 6, (some .int), (2, 48), (0, 0), false)
abbrev mX6_whenSure : Yt := (yX6_whenSure, cX6_whenSure, 6, (some .int), (5, 122), (0, 0), false)
abbrev mX7_init : Yt := (yX7_init, cX7_init, 1, none, (1, 20), (1, 40), false)
abbrev mX7_hasRow : Yt := (yX7_hasRow, cX7_hasRow, 1, (some .boolean), (0, 0), (0, 0), false)
abbrev mX7_hasEar : Yt := (yX7_hasEar, cX7_hasEar, 1, (some .boolean), (0, 0), (0, 0), false)
abbrev mX7_whyNoRow : Yt := (yX7_whyNoRow, cX7_whyNoRow, 1, (some .int), (1, 20), (0, 0), false)
abbrev mX7_earNumber : Yt := (yX7_earNumber, cX7_earNumber, 1, (some .int), (1, 20), (0, 0), false)
abbrev mX7_clear : Yt := (yX7_clear, cX7_clear, 1, none, (0, 0), (0, 0), false)
abbrev mX7_putEar : Yt := (yX7_putEar, cX7_putEar, 2, none, (0, 0), (0, 0), false)
abbrev mX7_putRow : Yt := (yX7_putRow, cX7_putRow, 3, none, (1, 24), (0, 0), false)
abbrev mX7_putHearing : Yt := (yX7_putHearing, cX7_putHearing, 3, none, (2, 46), (0, 0), false)
abbrev mX7_hasPlaces : Yt := (yX7_hasPlaces, cX7_hasPlaces, 3, (some .boolean), (0, 0), (0, 0), false)
abbrev mX7_elementAt : Yt := (yX7_elementAt, cX7_elementAt, 2, (some .long), (1, 22), (0, 0), false)
abbrev mX7_putElement : Yt := (yX7_putElement, cX7_putElement, 4, none, (1, 22), (0, 0), false)
abbrev mX7_lowestBits : Yt := (yX7_lowestBits, cX7_lowestBits, 3, (some .long), (0, 0), (0, 0), false)
abbrev mX7_takeElements : Yt := (yX7_takeElements, cX7_takeElements, 5, none, (1, 40), (0, 0), false)
abbrev mX7_startsWithNotes : Yt := (yX7_startsWithNotes, cX7_startsWithNotes, 3, (some .boolean), (2, 43), (0, 0), false)
abbrev mX7_firstUnheard : Yt := (yX7_firstUnheard, cX7_firstUnheard, 5, (some .int), (2, 43), (0, 0), false)
abbrev mX8_init : Yt := (yX8_init, cX8_init, 1, none, (1, 20), (1, 250), false)
abbrev mX8_hasRoom : Yt := (yX8_hasRoom, cX8_hasRoom, 1, (some .boolean), (0, 0), (0, 0), false)
abbrev mX8_append : Yt := (yX8_append, cX8_append, 2, (some .int), (0, 0), (0, 0), false)
abbrev mX8_empty : Yt := (yX8_empty, cX8_empty, 2, (some .int), (0, 0), (0, 0), false)
abbrev mX8_byteAt : Yt := (yX8_byteAt, cX8_byteAt, 2, (some .int), (0, 0), (0, 0), false)
abbrev mX8_isLetter : Yt := (yX8_isLetter, cX8_isLetter, 1, (some .boolean), (0, 0), (0, 0), false)
abbrev mX8_isDigit : Yt := (yX8_isDigit, cX8_isDigit, 1, (some .boolean), (0, 0), (0, 0), false)
abbrev mX8_toFirstToken : Yt := (yX8_toFirstToken, cX8_toFirstToken, 1, none, (2, 41), (0, 0), false)
abbrev mX8_toNextToken : Yt := (yX8_toNextToken, cX8_toNextToken, 1, none, (1, 21), (0, 0), false)
abbrev mX8_isAtEnd : Yt := (yX8_isAtEnd, cX8_isAtEnd, 1, (some .boolean), (0, 0), (0, 0), false)
abbrev mX8_isAtSign : Yt := (yX8_isAtSign, cX8_isAtSign, 1, (some .boolean), (1, 21), (0, 0), false)
abbrev mX8_isAtWord : Yt := (yX8_isAtWord, cX8_isAtWord, 3, (some .boolean), (5, 106), (0, 0), false)
abbrev mX8_countTextNotes : Yt := (yX8_countTextNotes, cX8_countTextNotes, 3, (some .int), (2, 42), (0, 0), false)
abbrev mX8_textNote : Yt := (yX8_textNote, cX8_textNote, 2, (some .int), (1, 21), (0, 0), false)
abbrev mX8_numberHere : Yt := (yX8_numberHere, cX8_numberHere, 3, (some .int), (1, 21), (0, 0), false)
abbrev mX9_init : Yt := (yX9_init, cX9_init, 2, none, (2, 40), (56, 946), false)
abbrev mX9_row : Yt := (yX9_row, cX9_row, 5, (some .int), (2, 46), (0, 0), false)
abbrev mX9_set : Yt := (yX9_set, cX9_set, 7, (some .int), (2, 45), (0, 0), false)
abbrev mX9_copy : Yt := (yX9_copy, cX9_copy, 8, (some .int), (2, 64), (0, 0), false)
abbrev mX9_element : Yt := (yX9_element, cX9_element, 4, (some .long), (2, 43), (0, 0), false)
abbrev mX9_holds : Yt := (yX9_holds, cX9_holds, 3, (some .int), (1, 21), (0, 0), false)
abbrev mX9_show : Yt := (yX9_show, cX9_show, 4, (some .int), (1, 22), (0, 0), false)
abbrev mX9_says : Yt := (yX9_says, cX9_says, 5, (some .int), (3, 68), (0, 0), false)
abbrev mX9_call : Yt := (yX9_call, cX9_call, 9, (some .int), (3, 65), (0, 0), false)
abbrev mX9_ear : Yt := (yX9_ear, cX9_ear, 3, (some .int), (1, 22), (0, 0), false)
abbrev mX9_man : Yt := (yX9_man, cX9_man, 3, (some .int), (1, 22), (0, 0), false)
abbrev mX9_tell : Yt := (yX9_tell, cX9_tell, 4, (some .int), (2, 44), (0, 0), false)
abbrev mX9_ask : Yt := (yX9_ask, cX9_ask, 4, (some .int), (1, 22), (0, 0), false)
abbrev mX9_feed : Yt := (yX9_feed, cX9_feed, 2, (some .int), (1, 22), (0, 0), false)
abbrev mX9_wipe : Yt := (yX9_wipe, cX9_wipe, 1, (some .int), (1, 21), (0, 0), false)
abbrev mX9_camp : Yt := (yX9_camp, cX9_camp, 2, (some .int), (8, 171), (0, 0), false)
abbrev mX9_callOf : Yt := (yX9_callOf, cX9_callOf, 3, (some .int), (2, 43), (0, 0), false)
abbrev mX9_earOf : Yt := (yX9_earOf, cX9_earOf, 3, (some .int), (1, 22), (0, 0), false)
abbrev mX9_manOf : Yt := (yX9_manOf, cX9_manOf, 3, (some .int), (1, 22), (0, 0), false)
abbrev mX9_heard : Yt := (yX9_heard, cX9_heard, 4, (some .int), (2, 48), (0, 0), false)
abbrev mX9_fits : Yt := (yX9_fits, cX9_fits, 7, (some .int), (4, 93), (0, 0), false)
abbrev mX9_likely : Yt := (yX9_likely, cX9_likely, 7, (some .int), (5, 122), (0, 0), false)
abbrev mX9_guess : Yt := (yX9_guess, cX9_guess, 6, (some .int), (4, 99), (0, 0), false)
abbrev mX9_apart : Yt := (yX9_apart, cX9_apart, 3, (some .int), (2, 42), (0, 0), false)
abbrev mX9_known : Yt := (yX9_known, cX9_known, 4, (some .int), (5, 124), (0, 0), false)
abbrev mX9_earFor : Yt := (yX9_earFor, cX9_earFor, 2, (some .int), (6, 150), (0, 0), false)
abbrev mX9_mean : Yt := (yX9_mean, cX9_mean, 2, (some .int), (6, 148), (0, 0), false)
abbrev mX9_worst : Yt := (yX9_worst, cX9_worst, 2, (some .int), (6, 150), (0, 0), false)
abbrev mX9_next : Yt := (yX9_next, cX9_next, 5, (some .int), (4, 99), (0, 0), false)
abbrev mX9_alikeFirst : Yt := (yX9_alikeFirst, cX9_alikeFirst, 3, (some .int), (2, 46), (0, 0), false)
abbrev mX9_notes : Yt := (yX9_notes, cX9_notes, 2, (some .int), (2, 46), (0, 0), false)
abbrev mX9_twins : Yt := (yX9_twins, cX9_twins, 1, (some .int), (4, 88), (0, 0), false)
abbrev mX9_change : Yt := (yX9_change, cX9_change, 3, (some .int), (4, 94), (0, 0), false)
abbrev mX9_alike : Yt := (yX9_alike, cX9_alike, 3, (some .int), (3, 67), (0, 0), false)
abbrev mX9_mixed : Yt := (yX9_mixed, cX9_mixed, 3, (some .int), (5, 124), (0, 0), false)
abbrev mX9_fresh : Yt := (yX9_fresh, cX9_fresh, 3, (some .int), (4, 90), (0, 0), false)
abbrev mX9_keep : Yt := (yX9_keep, cX9_keep, 2, (some .int), (4, 93), (0, 0), false)
abbrev mX9_does : Yt := (yX9_does, cX9_does, 3, (some .int), (6, 147), (0, 0), false)
abbrev mX9_right : Yt := (yX9_right, cX9_right, 2, (some .int), (6, 147), (0, 0), false)
abbrev mX9_leads : Yt := (yX9_leads, cX9_leads, 2, (some .int), (6, 147), (0, 0), false)
abbrev mX9_follows : Yt := (yX9_follows, cX9_follows, 2, (some .int), (6, 147), (0, 0), false)
abbrev mX9_sureFor : Yt := (yX9_sureFor, cX9_sureFor, 2, (some .int), (6, 148), (0, 0), false)
abbrev mX9_risk : Yt := (yX9_risk, cX9_risk, 3, (some .int), (5, 124), (0, 0), false)
abbrev mX9_learn : Yt := (yX9_learn, cX9_learn, 2, (some .int), (3, 68), (0, 0), false)
abbrev mX9_nearest : Yt := (yX9_nearest, cX9_nearest, 6, (some .int), (4, 93), (0, 0), false)
abbrev mX9_judge : Yt := (yX9_judge, cX9_judge, 5, (some .int), (3, 67), (0, 0), false)
abbrev mX9_when : Yt := (yX9_when, cX9_when, 5, (some .int), (6, 147), (0, 0), false)
abbrev mX9_sound : Yt := (yX9_sound, cX9_sound, 5, (some .int), (3, 68), (0, 0), false)
abbrev mX9_days : Yt := (yX9_days, cX9_days, 5, (some .int), (3, 73), (0, 0), false)
abbrev mX9_drop : Yt := (yX9_drop, cX9_drop, 1, (some .int), (1, 22), (0, 0), false)
abbrev mX9_seed : Yt := (yX9_seed, cX9_seed, 3, (some .int), (0, 0), (0, 0), false)
abbrev mX9_image : Yt := (yX9_image, cX9_image, 1, (some .int), (2, 61), (0, 0), false)
abbrev mX9_back : Yt := (yX9_back, cX9_back, 3, (some .int), (2, 61), (0, 0), false)
abbrev mX9_status : Yt := (yX9_status, cX9_status, 2, (some .int), (2, 44), (0, 0), false)
abbrev mX9_refuse : Yt := (yX9_refuse, cX9_refuse, 3, (some .int), (0, 0), (0, 0), false)
abbrev mX9_shelfAt : Yt := (yX9_shelfAt, cX9_shelfAt, 2, (some (.object "SoupOrHorses$Shelf")), (0, 0), (0, 0), false)
abbrev mX9_countFilledShelves : Yt := (yX9_countFilledShelves, cX9_countFilledShelves, 4, (some .int), (1, 21), (0, 0), false)
abbrev mX9_isDistance : Yt := (yX9_isDistance, cX9_isDistance, 1, (some .boolean), (0, 0), (0, 0), false)
abbrev mX9_takeHearing : Yt := (yX9_takeHearing, cX9_takeHearing, 7, (some .int), (3, 67), (0, 0), false)
abbrev mX10_init : Yt := (yX10_init, cX10_init, 1, none, (1, 20), (41, 864), false)
abbrev mX10_refuse : Yt := (yX10_refuse, cX10_refuse, 2, (some .int), (0, 0), (0, 0), false)
abbrev mX10_in : Yt := (yX10_in, cX10_in, 6, (some .boolean), (0, 0), (0, 0), false)
abbrev mX10_isCall : Yt := (yX10_isCall, cX10_isCall, 2, (some .boolean), (1, 25), (0, 0), false)
abbrev mX10_isEar : Yt := (yX10_isEar, cX10_isEar, 2, (some .boolean), (1, 25), (0, 0), false)
abbrev mX10_isMan : Yt := (yX10_isMan, cX10_isMan, 2, (some .boolean), (1, 25), (0, 0), false)
abbrev mX10_has : Yt := (yX10_has, cX10_has, 2, (some .boolean), (0, 0), (0, 0), false)
abbrev mX10_row : Yt := (yX10_row, cX10_row, 4, (some .int), (1, 25), (0, 0), false)
abbrev mX10_becomesRow : Yt := (yX10_becomesRow, cX10_becomesRow, 5, none, (0, 0), (0, 0), false)
abbrev mX10_fit : Yt := (yX10_fit, cX10_fit, 3, (some .long), (0, 0), (0, 0), false)
abbrev mX10_noRow : Yt := (yX10_noRow, cX10_noRow, 2, (some .int), (1, 25), (0, 0), false)
abbrev mX10_set : Yt := (yX10_set, cX10_set, 6, (some .int), (2, 46), (0, 0), false)
abbrev mX10_copy : Yt := (yX10_copy, cX10_copy, 7, (some .int), (1, 25), (0, 0), false)
abbrev mX10_element : Yt := (yX10_element, cX10_element, 3, (some .long), (1, 25), (0, 0), false)
abbrev mX10_holds : Yt := (yX10_holds, cX10_holds, 2, (some .int), (1, 25), (0, 0), false)
abbrev mX10_show : Yt := (yX10_show, cX10_show, 3, (some .int), (2, 46), (0, 0), false)
abbrev mX10_isUnder : Yt := (yX10_isUnder, cX10_isUnder, 2, (some .boolean), (0, 0), (0, 0), false)
abbrev mX10_says : Yt := (yX10_says, cX10_says, 7, (some .int), (1, 25), (0, 0), false)
abbrev mX10_addCall : Yt := (yX10_addCall, cX10_addCall, 4, none, (0, 0), (0, 0), false)
abbrev mX10_call : Yt := (yX10_call, cX10_call, 7, (some .int), (2, 46), (0, 0), false)
abbrev mX10_addEar : Yt := (yX10_addEar, cX10_addEar, 3, none, (0, 0), (0, 0), false)
abbrev mX10_ear : Yt := (yX10_ear, cX10_ear, 3, (some .int), (1, 25), (0, 0), false)
abbrev mX10_addMan : Yt := (yX10_addMan, cX10_addMan, 3, none, (0, 0), (0, 0), false)
abbrev mX10_man : Yt := (yX10_man, cX10_man, 3, (some .int), (2, 46), (0, 0), false)
abbrev mX10_tell : Yt := (yX10_tell, cX10_tell, 7, (some .int), (2, 46), (0, 0), false)
abbrev mX10_ask : Yt := (yX10_ask, cX10_ask, 5, (some .int), (1, 25), (0, 0), false)
abbrev mX10_feed : Yt := (yX10_feed, cX10_feed, 2, (some .int), (1, 25), (0, 0), false)
abbrev mX10_wipe : Yt := (yX10_wipe, cX10_wipe, 2, (some .int), (0, 0), (0, 0), false)
abbrev mX10_isLetter : Yt := (yX10_isLetter, cX10_isLetter, 1, (some .boolean), (0, 0), (0, 0), false)
abbrev mX10_isDigit : Yt := (yX10_isDigit, cX10_isDigit, 1, (some .boolean), (0, 0), (0, 0), false)
abbrev mX10_token : Yt := (yX10_token, cX10_token, 1, none, (1, 20), (0, 0), false)
abbrev mX10_wrong : Yt := (yX10_wrong, cX10_wrong, 1, (some .boolean), (0, 0), (0, 0), false)
abbrev mX10_isWord : Yt := (yX10_isWord, cX10_isWord, 3, (some .boolean), (5, 106), (0, 0), false)
abbrev mX10_number : Yt := (yX10_number, cX10_number, 4, (some .boolean), (2, 40), (0, 0), false)
abbrev mX10_tells : Yt := (yX10_tells, cX10_tells, 3, (some .boolean), (3, 63), (0, 0), false)
abbrev mX10_callTold : Yt := (yX10_callTold, cX10_callTold, 3, (some .boolean), (3, 63), (0, 0), false)
abbrev mX10_statement : Yt := (yX10_statement, cX10_statement, 2, (some .boolean), (6, 128), (0, 0), false)
abbrev mX10_readAll : Yt := (yX10_readAll, cX10_readAll, 1, (some .boolean), (7, 149), (0, 0), false)
abbrev mX10_fresh : Yt := (yX10_fresh, cX10_fresh, 1, (some (.object "SoupOrHorsesModel")), (2, 44), (42, 902), false)
abbrev mX10_camp : Yt := (yX10_camp, cX10_camp, 3, (some .int), (8, 169), (42, 902), false)
abbrev mX10_callOf : Yt := (yX10_callOf, cX10_callOf, 3, (some .int), (2, 46), (0, 0), false)
abbrev mX10_earOf : Yt := (yX10_earOf, cX10_earOf, 3, (some .int), (2, 46), (0, 0), false)
abbrev mX10_manOf : Yt := (yX10_manOf, cX10_manOf, 3, (some .int), (2, 46), (0, 0), false)
abbrev mX10_isTorn : Yt := (yX10_isTorn, cX10_isTorn, 4, (some .boolean), (0, 0), (0, 0), false)
abbrev mX10_isEchoed : Yt := (yX10_isEchoed, cX10_isEchoed, 3, (some .boolean), (0, 0), (0, 0), false)
abbrev mX10_hears : Yt := (yX10_hears, cX10_hears, 5, (some .int), (1, 23), (0, 0), false)
abbrev mX10_heard : Yt := (yX10_heard, cX10_heard, 4, (some .int), (2, 47), (0, 0), false)
abbrev mX10_fitsHearing : Yt := (yX10_fitsHearing, cX10_fitsHearing, 5, (some .boolean), (2, 47), (0, 0), false)
abbrev mX10_hearsOf : Yt := (yX10_hearsOf, cX10_hearsOf, 6, none, (2, 47), (0, 0), false)
abbrev mX10_likelyOf : Yt := (yX10_likelyOf, cX10_likelyOf, 5, (some .int), (3, 71), (0, 0), false)
abbrev mX10_guessOf : Yt := (yX10_guessOf, cX10_guessOf, 4, (some .int), (3, 71), (0, 0), false)
abbrev mX10_noNotes : Yt := (yX10_noNotes, cX10_noNotes, 5, (some .int), (2, 46), (0, 0), false)
abbrev mX10_noHearing : Yt := (yX10_noHearing, cX10_noHearing, 7, (some .int), (3, 70), (0, 0), false)
abbrev mX10_fits : Yt := (yX10_fits, cX10_fits, 7, (some .int), (4, 96), (0, 0), false)
abbrev mX10_likely : Yt := (yX10_likely, cX10_likely, 7, (some .int), (4, 96), (0, 0), false)
abbrev mX10_guess : Yt := (yX10_guess, cX10_guess, 6, (some .int), (4, 96), (0, 0), false)
abbrev mX10_next : Yt := (yX10_next, cX10_next, 8, (some .int), (4, 96), (0, 0), false)
abbrev mX10_when : Yt := (yX10_when, cX10_when, 7, (some .int), (4, 96), (0, 0), false)
abbrev mX10_apartOf : Yt := (yX10_apartOf, cX10_apartOf, 6, (some .int), (0, 0), (0, 0), false)
abbrev mX10_apart : Yt := (yX10_apart, cX10_apart, 3, (some .int), (2, 46), (0, 0), false)
abbrev mX10_isAlone : Yt := (yX10_isAlone, cX10_isAlone, 4, (some .boolean), (3, 71), (0, 0), false)
abbrev mX10_knownOf : Yt := (yX10_knownOf, cX10_knownOf, 4, (some .int), (4, 94), (0, 0), false)
abbrev mX10_known : Yt := (yX10_known, cX10_known, 3, (some .int), (5, 117), (0, 0), false)
abbrev mX10_behindOf : Yt := (yX10_behindOf, cX10_behindOf, 4, (some .int), (5, 117), (0, 0), false)
abbrev mX10_earFor : Yt := (yX10_earFor, cX10_earFor, 4, (some .int), (6, 140), (0, 0), false)
abbrev mX10_uses : Yt := (yX10_uses, cX10_uses, 3, (some .int), (0, 0), (0, 0), false)
abbrev mX10_mean : Yt := (yX10_mean, cX10_mean, 5, (some .int), (6, 140), (0, 0), false)
abbrev mX10_riskOf : Yt := (yX10_riskOf, cX10_riskOf, 6, (some .int), (3, 72), (0, 0), false)
abbrev mX10_risk : Yt := (yX10_risk, cX10_risk, 3, (some .int), (4, 97), (0, 0), false)
abbrev mX10_worst : Yt := (yX10_worst, cX10_worst, 4, (some .int), (4, 97), (0, 0), false)
abbrev mX10_alikeFirst : Yt := (yX10_alikeFirst, cX10_alikeFirst, 4, (some .int), (2, 46), (0, 0), false)
abbrev mX10_notes : Yt := (yX10_notes, cX10_notes, 5, (some .int), (1, 25), (0, 0), false)
abbrev mX10_twins : Yt := (yX10_twins, cX10_twins, 5, (some .int), (1, 25), (0, 0), false)
abbrev mX10_farFrom : Yt := (yX10_farFrom, cX10_farFrom, 6, (some .int), (0, 0), (0, 0), false)
abbrev mX10_isFar : Yt := (yX10_isFar, cX10_isFar, 5, (some .boolean), (1, 25), (0, 0), false)
abbrev mX10_becomes : Yt := (yX10_becomes, cX10_becomes, 6, (some .int), (0, 0), (0, 0), false)
abbrev mX10_change : Yt := (yX10_change, cX10_change, 9, (some .int), (2, 49), (0, 0), false)
abbrev mX10_alike : Yt := (yX10_alike, cX10_alike, 6, (some .int), (1, 25), (0, 0), false)
abbrev mX10_mixed : Yt := (yX10_mixed, cX10_mixed, 7, (some .int), (3, 72), (0, 0), false)
abbrev mX10_fresh_ : Yt := (yX10_fresh_, cX10_fresh_, 5, (some .int), (2, 49), (0, 0), false)
abbrev mX10_areApart : Yt := (yX10_areApart, cX10_areApart, 5, (some .boolean), (1, 25), (0, 0), false)
abbrev mX10_keep : Yt := (yX10_keep, cX10_keep, 7, (some .int), (2, 49), (0, 0), false)
abbrev mX10_mostDo : Yt := (yX10_mostDo, cX10_mostDo, 7, (some .int), (0, 0), (0, 0), false)
abbrev mX10_goes : Yt := (yX10_goes, cX10_goes, 5, none, (4, 95), (0, 0), false)
abbrev mX10_does : Yt := (yX10_does, cX10_does, 3, (some .int), (5, 119), (0, 0), false)
abbrev mX10_rightOf : Yt := (yX10_rightOf, cX10_rightOf, 4, (some .int), (5, 119), (0, 0), false)
abbrev mX10_right : Yt := (yX10_right, cX10_right, 2, (some .int), (6, 142), (0, 0), false)
abbrev mX10_leads : Yt := (yX10_leads, cX10_leads, 3, (some .int), (5, 119), (0, 0), false)
abbrev mX10_follows : Yt := (yX10_follows, cX10_follows, 4, (some .int), (5, 119), (0, 0), false)
abbrev mX10_sureFor : Yt := (yX10_sureFor, cX10_sureFor, 4, (some .int), (6, 142), (42, 902), false)
abbrev mX10_learn : Yt := (yX10_learn, cX10_learn, 6, (some .int), (2, 46), (0, 0), false)
abbrev mX10_differs : Yt := (yX10_differs, cX10_differs, 6, (some .int), (0, 0), (0, 0), false)
abbrev mX10_nearestOf : Yt := (yX10_nearestOf, cX10_nearestOf, 3, (some .int), (1, 25), (0, 0), false)
abbrev mX10_nearest : Yt := (yX10_nearest, cX10_nearest, 6, (some .int), (4, 96), (0, 0), false)
abbrev mX10_judge : Yt := (yX10_judge, cX10_judge, 5, (some .int), (2, 46), (0, 0), false)
abbrev mX10_below : Yt := (yX10_below, cX10_below, 2, (some .int), (0, 0), (0, 0), false)
abbrev mX10_sounded : Yt := (yX10_sounded, cX10_sounded, 5, (some .int), (1, 21), (0, 0), false)
abbrev mX10_sound : Yt := (yX10_sound, cX10_sound, 5, (some .int), (2, 46), (0, 0), false)
abbrev mX10_days : Yt := (yX10_days, cX10_days, 5, (some .int), (2, 47), (0, 0), false)
abbrev mX10_drop : Yt := (yX10_drop, cX10_drop, 1, (some .int), (1, 21), (0, 0), false)
abbrev mX10_seed : Yt := (yX10_seed, cX10_seed, 3, (some .int), (0, 0), (0, 0), false)
abbrev mX10_copied : Yt := (yX10_copied, cX10_copied, 3, none, (0, 0), (0, 0), false)
abbrev mX10_takeFrom : Yt := (yX10_takeFrom, cX10_takeFrom, 3, none, (1, 22), (0, 0), false)
abbrev mX10_image : Yt := (yX10_image, cX10_image, 1, (some .int), (2, 44), (42, 902), false)
abbrev mX10_back : Yt := (yX10_back, cX10_back, 2, (some .int), (2, 44), (0, 0), false)
abbrev mX10_sumOf : Yt := (yX10_sumOf, cX10_sumOf, 4, (some .int), (0, 0), (0, 0), false)
abbrev mX10_status : Yt := (yX10_status, cX10_status, 4, (some .int), (1, 25), (0, 0), false)
abbrev mJ6_bitCount_0f7a4 : Yt := (yJ6_bitCount_0f7a4, cJ6_bitCount_0f7a4, 1, (some .int), (0, 0), (0, 0), false)
abbrev mJ9_abs_0f7a4 : Yt := (yJ9_abs_0f7a4, cJ9_abs_0f7a4, 1, (some .int), (0, 0), (0, 0), false)
abbrev mJ9_max_7cf53 : Yt := (yJ9_max_7cf53, cJ9_max_7cf53, 2, (some .int), (0, 0), (0, 0), false)
abbrev mJ9_min_7cf53 : Yt := (yJ9_min_7cf53, cJ9_min_7cf53, 2, (some .int), (0, 0), (0, 0), false)
abbrev mJ0_length_8abf5 : Yt := (yJ0_length_8abf5, cJ0_length_8abf5, 1, (some .int), (1, 20), (0, 0), false)
abbrev mJ0_charAt_5068e : Yt := (yJ0_charAt_5068e, cJ0_charAt_5068e, 2, (some .char), (4, 85), (0, 0), false)
abbrev mJ0_coder_7d493 : Yt := (yJ0_coder_7d493, cJ0_coder_7d493, 1, (some .byte), (0, 0), (0, 0), false)
abbrev mJ0_isLatin1_aae02 : Yt := (yJ0_isLatin1_aae02, cJ0_isLatin1_aae02, 1, (some .boolean), (0, 0), (0, 0), false)
abbrev mJ0_checkIndex_df160 : Yt := (yJ0_checkIndex_df160, cJ0_checkIndex_df160, 2, none, (1, 22), (0, 0), false)
abbrev mJ1_charAt_3b067 : Yt := (yJ1_charAt_3b067, cJ1_charAt_3b067, 2, (some .char), (2, 43), (0, 0), false)
abbrev mJ2_getChar_3b067 : Yt := (yJ2_getChar_3b067, cJ2_getChar_3b067, 2, (some .char), (1, 20), (0, 0), false)
abbrev mJ2_length_9d52b : Yt := (yJ2_length_9d52b, cJ2_length_9d52b, 1, (some .int), (0, 0), (0, 0), false)
abbrev mJ2_charAt_3b067 : Yt := (yJ2_charAt_3b067, cJ2_charAt_3b067, 2, (some .char), (3, 64), (0, 0), false)
abbrev mJ2_checkIndex_2214a : Yt := (yJ2_checkIndex_2214a, cJ2_checkIndex_2214a, 2, none, (2, 43), (0, 0), false)
abbrev mJ7_fill_d0a16 : Yt := (yJ7_fill_d0a16, cJ7_fill_d0a16, 5, none, (0, 0), (0, 0), false)
abbrev mJ7_fill_53178 : Yt := (yJ7_fill_53178, cJ7_fill_53178, 4, none, (0, 0), (0, 0), false)
abbrev mJ3_checkIndex_8e157 : Yt := (yJ3_checkIndex_8e157, cJ3_checkIndex_8e157, 3, (some .int), (0, 0), (0, 0), false)
abbrev mL_law : Yt := (yL_law, cL_law, 4, (some .boolean), (11, 388), (600000, 7302249), true)
theorem tb_1 {w : Cond} (h : w ∈ tables_1_1) (hg : goodWord w = true) : w ∈ WS := WS_of (List.mem_append_right _ (List.mem_append_left _ h)) hg
theorem tb_2 {w : Cond} (h : w ∈ tables_1_2) (hg : goodWord w = true) : w ∈ WS := WS_of (List.mem_append_right _ (List.mem_append_right _ (List.mem_append_left _ h))) hg
theorem tb_3 {w : Cond} (h : w ∈ tables_1_3) (hg : goodWord w = true) : w ∈ WS := WS_of (List.mem_append_right _ (List.mem_append_right _ (List.mem_append_right _ (List.mem_append_left _ h)))) hg
theorem tb_4 {w : Cond} (h : w ∈ tables_1_4) (hg : goodWord w = true) : w ∈ WS := WS_of (List.mem_append_right _ (List.mem_append_right _ (List.mem_append_right _ (List.mem_append_right _ (List.mem_append_left _ h))))) hg
theorem tb_5 {w : Cond} (h : w ∈ tables_1_5) (hg : goodWord w = true) : w ∈ WS := WS_of (List.mem_append_right _ (List.mem_append_right _ (List.mem_append_right _ (List.mem_append_right _ (List.mem_append_right _ (List.mem_append_left _ h)))))) hg
theorem tb_6 {w : Cond} (h : w ∈ tables_1_6) (hg : goodWord w = true) : w ∈ WS := WS_of (List.mem_append_right _ (List.mem_append_right _ (List.mem_append_right _ (List.mem_append_right _ (List.mem_append_right _ (List.mem_append_right _ (List.mem_append_left _ h))))))) hg
theorem tb_7 {w : Cond} (h : w ∈ tables_1_7) (hg : goodWord w = true) : w ∈ WS := WS_of (List.mem_append_right _ (List.mem_append_right _ (List.mem_append_right _ (List.mem_append_right _ (List.mem_append_right _ (List.mem_append_right _ (List.mem_append_right _ (h)))))))) hg
theorem uw_0 : ∀ w ∈ u_ws RX0 TX0 14, w ∈ WS := by
  have h : u_ws RX0 TX0 14 = [63, 65, 67, 69, 71, 73, 75, 77, 79, 81, 83, 85, 87, 89].filterMap (fun i => tables_1[i]?) := by decide +kernel
  intro w hw
  have hg : goodWord w = true := List.all_eq_true.mp (by decide +kernel : (u_ws RX0 TX0 14).all goodWord = true) w hw
  rw [h] at hw
  obtain ⟨i, -, hi⟩ := List.mem_filterMap.mp hw
  exact WS_of (List.mem_append_right _ (List.mem_of_getElem? hi)) hg
theorem uw_1 : ∀ w ∈ u_ws RX1 TX1 5, w ∈ WS := by
  have h : u_ws RX1 TX1 5 = [165, 167, 169, 171, 173].filterMap (fun i => tables_1[i]?) := by decide +kernel
  intro w hw
  have hg : goodWord w = true := List.all_eq_true.mp (by decide +kernel : (u_ws RX1 TX1 5).all goodWord = true) w hw
  rw [h] at hw
  obtain ⟨i, -, hi⟩ := List.mem_filterMap.mp hw
  exact WS_of (List.mem_append_right _ (List.mem_of_getElem? hi)) hg
theorem uw_2 : ∀ w ∈ u_ws RX2 TX2 3, w ∈ WS := by
  have h : u_ws RX2 TX2 3 = [147, 149, 151].filterMap (fun i => tables_1[i]?) := by decide +kernel
  intro w hw
  have hg : goodWord w = true := List.all_eq_true.mp (by decide +kernel : (u_ws RX2 TX2 3).all goodWord = true) w hw
  rw [h] at hw
  obtain ⟨i, -, hi⟩ := List.mem_filterMap.mp hw
  exact WS_of (List.mem_append_right _ (List.mem_of_getElem? hi)) hg
theorem uw_3 : ∀ w ∈ u_ws RX4 TX4 1, w ∈ WS := by
  have h : u_ws RX4 TX4 1 = [183].filterMap (fun i => tables_1[i]?) := by decide +kernel
  intro w hw
  have hg : goodWord w = true := List.all_eq_true.mp (by decide +kernel : (u_ws RX4 TX4 1).all goodWord = true) w hw
  rw [h] at hw
  obtain ⟨i, -, hi⟩ := List.mem_filterMap.mp hw
  exact WS_of (List.mem_append_right _ (List.mem_of_getElem? hi)) hg
theorem uw_4 : ∀ w ∈ u_ws RX7 TX7 3, w ∈ WS := by
  have h : u_ws RX7 TX7 3 = [105, 107, 109].filterMap (fun i => tables_1[i]?) := by decide +kernel
  intro w hw
  have hg : goodWord w = true := List.all_eq_true.mp (by decide +kernel : (u_ws RX7 TX7 3).all goodWord = true) w hw
  rw [h] at hw
  obtain ⟨i, -, hi⟩ := List.mem_filterMap.mp hw
  exact WS_of (List.mem_append_right _ (List.mem_of_getElem? hi)) hg
theorem uw_5 : ∀ w ∈ u_ws RX8 TX8 4, w ∈ WS := by
  have h : u_ws RX8 TX8 4 = [126, 128, 130, 132].filterMap (fun i => tables_1[i]?) := by decide +kernel
  intro w hw
  have hg : goodWord w = true := List.all_eq_true.mp (by decide +kernel : (u_ws RX8 TX8 4).all goodWord = true) w hw
  rw [h] at hw
  obtain ⟨i, -, hi⟩ := List.mem_filterMap.mp hw
  exact WS_of (List.mem_append_right _ (List.mem_of_getElem? hi)) hg
theorem uw_6 : ∀ w ∈ u_ws RX9 TX9 10, w ∈ WS := by
  have h : u_ws RX9 TX9 10 = [196, 198, 200, 202, 204, 206, 208, 210, 212, 214].filterMap (fun i => tables_1[i]?) := by decide +kernel
  intro w hw
  have hg : goodWord w = true := List.all_eq_true.mp (by decide +kernel : (u_ws RX9 TX9 10).all goodWord = true) w hw
  rw [h] at hw
  obtain ⟨i, -, hi⟩ := List.mem_filterMap.mp hw
  exact WS_of (List.mem_append_right _ (List.mem_of_getElem? hi)) hg
theorem uw_7 : ∀ w ∈ u_ws RX10 TX10 38, w ∈ WS := by
  have h : u_ws RX10 TX10 38 = [1134, 1136, 1138, 1140, 1142, 1144, 1146, 1148, 1150, 1152, 1154, 1156, 1158, 1160, 1162, 1164, 1166, 1168, 1170, 1172, 1174, 1176, 1178, 1180, 1182, 1184, 1186, 1188, 1190, 1192, 1194, 1196, 1198, 1200, 1202, 1204, 1206, 1208].filterMap (fun i => tables_1[i]?) := by decide +kernel
  intro w hw
  have hg : goodWord w = true := List.all_eq_true.mp (by decide +kernel : (u_ws RX10 TX10 38).all goodWord = true) w hw
  rw [h] at hw
  obtain ⟨i, -, hi⟩ := List.mem_filterMap.mp hw
  exact WS_of (List.mem_append_right _ (List.mem_of_getElem? hi)) hg
theorem mw_34 : (Cond.fieldLink "SoupOrHorses$Camp" (11 : Nat) "SoupOrHorses$Camp" "sizes" "[I") ∈ WS := tb_1 (List.mem_of_getElem? (i := 34) (by decide +kernel)) (by decide +kernel)
theorem lf_X0_11 : LF RX0 11 0 0 true := ⟨(RX0, TX0, 14), rfl, rfl, by decide, uw_0, mw_34, tyX0_ok, nmX0, rfl, fun _ => rfl⟩
theorem mw_35 : (Cond.fieldLink "SoupOrHorses$Camp" (15 : Nat) "SoupOrHorses$Camp" "packed" "[I") ∈ WS := tb_1 (List.mem_of_getElem? (i := 35) (by decide +kernel)) (by decide +kernel)
theorem lf_X0_15 : LF RX0 15 0 1 true := ⟨(RX0, TX0, 14), rfl, rfl, by decide, uw_0, mw_35, tyX0_ok, nmX0, rfl, fun _ => rfl⟩
theorem mw_36 : (Cond.fieldLink "SoupOrHorses$Camp" (18 : Nat) "SoupOrHorses$Camp" "uses" "[I") ∈ WS := tb_1 (List.mem_of_getElem? (i := 36) (by decide +kernel)) (by decide +kernel)
theorem lf_X0_18 : LF RX0 18 0 2 true := ⟨(RX0, TX0, 14), rfl, rfl, by decide, uw_0, mw_36, tyX0_ok, nmX0, rfl, fun _ => rfl⟩
theorem mw_37 : (Cond.fieldLink "SoupOrHorses$Camp" (21 : Nat) "SoupOrHorses$Camp" "costs" "[I") ∈ WS := tb_1 (List.mem_of_getElem? (i := 37) (by decide +kernel)) (by decide +kernel)
theorem lf_X0_21 : LF RX0 21 0 3 true := ⟨(RX0, TX0, 14), rfl, rfl, by decide, uw_0, mw_37, tyX0_ok, nmX0, rfl, fun _ => rfl⟩
theorem mw_38 : (Cond.fieldLink "SoupOrHorses$Camp" (24 : Nat) "SoupOrHorses$Camp" "kinds" "[I") ∈ WS := tb_1 (List.mem_of_getElem? (i := 38) (by decide +kernel)) (by decide +kernel)
theorem lf_X0_24 : LF RX0 24 0 4 true := ⟨(RX0, TX0, 14), rfl, rfl, by decide, uw_0, mw_38, tyX0_ok, nmX0, rfl, fun _ => rfl⟩
theorem mw_39 : (Cond.fieldLink "SoupOrHorses$Camp" (27 : Nat) "SoupOrHorses$Camp" "strengths" "[I") ∈ WS := tb_1 (List.mem_of_getElem? (i := 39) (by decide +kernel)) (by decide +kernel)
theorem lf_X0_27 : LF RX0 27 0 5 true := ⟨(RX0, TX0, 14), rfl, rfl, by decide, uw_0, mw_39, tyX0_ok, nmX0, rfl, fun _ => rfl⟩
theorem mw_40 : (Cond.fieldLink "SoupOrHorses$Camp" (30 : Nat) "SoupOrHorses$Camp" "earsOfMen" "[I") ∈ WS := tb_1 (List.mem_of_getElem? (i := 40) (by decide +kernel)) (by decide +kernel)
theorem lf_X0_30 : LF RX0 30 0 6 true := ⟨(RX0, TX0, 14), rfl, rfl, by decide, uw_0, mw_40, tyX0_ok, nmX0, rfl, fun _ => rfl⟩
theorem mw_41 : (Cond.fieldLink "SoupOrHorses$Camp" (33 : Nat) "SoupOrHorses$Camp" "looks" "[I") ∈ WS := tb_1 (List.mem_of_getElem? (i := 41) (by decide +kernel)) (by decide +kernel)
theorem lf_X0_33 : LF RX0 33 0 7 true := ⟨(RX0, TX0, 14), rfl, rfl, by decide, uw_0, mw_41, tyX0_ok, nmX0, rfl, fun _ => rfl⟩
theorem mw_42 : (Cond.fieldLink "SoupOrHorses$Camp" (36 : Nat) "SoupOrHorses$Camp" "calls" "I") ∈ WS := tb_1 (List.mem_of_getElem? (i := 42) (by decide +kernel)) (by decide +kernel)
theorem lf_X0_36 : LF RX0 36 0 8 false := ⟨(RX0, TX0, 14), rfl, rfl, by decide, uw_0, mw_42, tyX0_ok, nmX0, rfl, fun h => absurd h (by decide)⟩
theorem mw_43 : (Cond.fieldLink "SoupOrHorses$Likeness" (36 : Nat) "SoupOrHorses$Camp" "calls" "I") ∈ WS := tb_1 (List.mem_of_getElem? (i := 43) (by decide +kernel)) (by decide +kernel)
theorem lf_X4_36 : LF RX4 36 0 8 false := ⟨(RX0, TX0, 14), rfl, rfl, by decide, uw_0, mw_43, tyX0_ok, nmX0, rfl, fun h => absurd h (by decide)⟩
theorem mw_44 : (Cond.fieldLink "SoupOrHorses$Sense" (56 : Nat) "SoupOrHorses$Camp" "calls" "I") ∈ WS := tb_1 (List.mem_of_getElem? (i := 44) (by decide +kernel)) (by decide +kernel)
theorem lf_X6_56 : LF RX6 56 0 8 false := ⟨(RX0, TX0, 14), rfl, rfl, by decide, uw_0, mw_44, tyX0_ok, nmX0, rfl, fun h => absurd h (by decide)⟩
theorem mw_45 : (Cond.fieldLink "SoupOrHorses" (281 : Nat) "SoupOrHorses$Camp" "calls" "I") ∈ WS := tb_1 (List.mem_of_getElem? (i := 45) (by decide +kernel)) (by decide +kernel)
theorem lf_X9_281 : LF RX9 281 0 8 false := ⟨(RX0, TX0, 14), rfl, rfl, by decide, uw_0, mw_45, tyX0_ok, nmX0, rfl, fun h => absurd h (by decide)⟩
theorem mw_46 : (Cond.fieldLink "SoupOrHorses$Camp" (40 : Nat) "SoupOrHorses$Camp" "ears" "I") ∈ WS := tb_1 (List.mem_of_getElem? (i := 46) (by decide +kernel)) (by decide +kernel)
theorem lf_X0_40 : LF RX0 40 0 9 false := ⟨(RX0, TX0, 14), rfl, rfl, by decide, uw_0, mw_46, tyX0_ok, nmX0, rfl, fun h => absurd h (by decide)⟩
theorem mw_47 : (Cond.fieldLink "SoupOrHorses$Sense" (84 : Nat) "SoupOrHorses$Camp" "ears" "I") ∈ WS := tb_1 (List.mem_of_getElem? (i := 47) (by decide +kernel)) (by decide +kernel)
theorem lf_X6_84 : LF RX6 84 0 9 false := ⟨(RX0, TX0, 14), rfl, rfl, by decide, uw_0, mw_47, tyX0_ok, nmX0, rfl, fun h => absurd h (by decide)⟩
theorem mw_48 : (Cond.fieldLink "SoupOrHorses" (275 : Nat) "SoupOrHorses$Camp" "ears" "I") ∈ WS := tb_1 (List.mem_of_getElem? (i := 48) (by decide +kernel)) (by decide +kernel)
theorem lf_X9_275 : LF RX9 275 0 9 false := ⟨(RX0, TX0, 14), rfl, rfl, by decide, uw_0, mw_48, tyX0_ok, nmX0, rfl, fun h => absurd h (by decide)⟩
theorem mw_49 : (Cond.fieldLink "SoupOrHorses$Camp" (43 : Nat) "SoupOrHorses$Camp" "men" "I") ∈ WS := tb_1 (List.mem_of_getElem? (i := 49) (by decide +kernel)) (by decide +kernel)
theorem lf_X0_43 : LF RX0 43 0 10 false := ⟨(RX0, TX0, 14), rfl, rfl, by decide, uw_0, mw_49, tyX0_ok, nmX0, rfl, fun h => absurd h (by decide)⟩
theorem mw_50 : (Cond.fieldLink "SoupOrHorses$Crowd" (41 : Nat) "SoupOrHorses$Camp" "men" "I") ∈ WS := tb_1 (List.mem_of_getElem? (i := 50) (by decide +kernel)) (by decide +kernel)
theorem lf_X1_41 : LF RX1 41 0 10 false := ⟨(RX0, TX0, 14), rfl, rfl, by decide, uw_0, mw_50, tyX0_ok, nmX0, rfl, fun h => absurd h (by decide)⟩
theorem mw_51 : (Cond.fieldLink "SoupOrHorses" (387 : Nat) "SoupOrHorses$Camp" "men" "I") ∈ WS := tb_1 (List.mem_of_getElem? (i := 51) (by decide +kernel)) (by decide +kernel)
theorem lf_X9_387 : LF RX9 387 0 10 false := ⟨(RX0, TX0, 14), rfl, rfl, by decide, uw_0, mw_51, tyX0_ok, nmX0, rfl, fun h => absurd h (by decide)⟩
theorem mw_52 : (Cond.fieldLink "SoupOrHorses$Camp" (46 : Nat) "SoupOrHorses$Camp" "sure" "I") ∈ WS := tb_1 (List.mem_of_getElem? (i := 52) (by decide +kernel)) (by decide +kernel)
theorem lf_X0_46 : LF RX0 46 0 11 false := ⟨(RX0, TX0, 14), rfl, rfl, by decide, uw_0, mw_52, tyX0_ok, nmX0, rfl, fun h => absurd h (by decide)⟩
theorem mw_53 : (Cond.fieldLink "SoupOrHorses$Crowd" (34 : Nat) "SoupOrHorses$Camp" "sure" "I") ∈ WS := tb_1 (List.mem_of_getElem? (i := 53) (by decide +kernel)) (by decide +kernel)
theorem lf_X1_34 : LF RX1 34 0 11 false := ⟨(RX0, TX0, 14), rfl, rfl, by decide, uw_0, mw_53, tyX0_ok, nmX0, rfl, fun h => absurd h (by decide)⟩
theorem mw_54 : (Cond.fieldLink "SoupOrHorses$Reader" (135 : Nat) "SoupOrHorses$Camp" "sure" "I") ∈ WS := tb_1 (List.mem_of_getElem? (i := 54) (by decide +kernel)) (by decide +kernel)
theorem lf_X5_135 : LF RX5 135 0 11 false := ⟨(RX0, TX0, 14), rfl, rfl, by decide, uw_0, mw_54, tyX0_ok, nmX0, rfl, fun h => absurd h (by decide)⟩
theorem mw_55 : (Cond.fieldLink "SoupOrHorses" (192 : Nat) "SoupOrHorses$Camp" "sure" "I") ∈ WS := tb_1 (List.mem_of_getElem? (i := 55) (by decide +kernel)) (by decide +kernel)
theorem lf_X9_192 : LF RX9 192 0 11 false := ⟨(RX0, TX0, 14), rfl, rfl, by decide, uw_0, mw_55, tyX0_ok, nmX0, rfl, fun h => absurd h (by decide)⟩
theorem mw_56 : (Cond.fieldLink "SoupOrHorses$Sense" (126 : Nat) "SoupOrHorses$Camp" "sure" "I") ∈ WS := tb_1 (List.mem_of_getElem? (i := 56) (by decide +kernel)) (by decide +kernel)
theorem lf_X6_126 : LF RX6 126 0 11 false := ⟨(RX0, TX0, 14), rfl, rfl, by decide, uw_0, mw_56, tyX0_ok, nmX0, rfl, fun h => absurd h (by decide)⟩
theorem mw_57 : (Cond.fieldLink "SoupOrHorses$Camp" (49 : Nat) "SoupOrHorses$Camp" "lost" "I") ∈ WS := tb_1 (List.mem_of_getElem? (i := 57) (by decide +kernel)) (by decide +kernel)
theorem lf_X0_49 : LF RX0 49 0 12 false := ⟨(RX0, TX0, 14), rfl, rfl, by decide, uw_0, mw_57, tyX0_ok, nmX0, rfl, fun h => absurd h (by decide)⟩
theorem mw_58 : (Cond.fieldLink "SoupOrHorses$Hearing" (59 : Nat) "SoupOrHorses$Camp" "lost" "I") ∈ WS := tb_1 (List.mem_of_getElem? (i := 58) (by decide +kernel)) (by decide +kernel)
theorem lf_X2_59 : LF RX2 59 0 12 false := ⟨(RX0, TX0, 14), rfl, rfl, by decide, uw_0, mw_58, tyX0_ok, nmX0, rfl, fun h => absurd h (by decide)⟩
theorem mw_59 : (Cond.fieldLink "SoupOrHorses$Reader" (140 : Nat) "SoupOrHorses$Camp" "lost" "I") ∈ WS := tb_1 (List.mem_of_getElem? (i := 59) (by decide +kernel)) (by decide +kernel)
theorem lf_X5_140 : LF RX5 140 0 12 false := ⟨(RX0, TX0, 14), rfl, rfl, by decide, uw_0, mw_59, tyX0_ok, nmX0, rfl, fun h => absurd h (by decide)⟩
theorem mw_60 : (Cond.fieldLink "SoupOrHorses" (198 : Nat) "SoupOrHorses$Camp" "lost" "I") ∈ WS := tb_1 (List.mem_of_getElem? (i := 60) (by decide +kernel)) (by decide +kernel)
theorem lf_X9_198 : LF RX9 198 0 12 false := ⟨(RX0, TX0, 14), rfl, rfl, by decide, uw_0, mw_60, tyX0_ok, nmX0, rfl, fun h => absurd h (by decide)⟩
theorem mw_61 : (Cond.fieldLink "SoupOrHorses$Camp" (52 : Nat) "SoupOrHorses$Camp" "seed" "I") ∈ WS := tb_1 (List.mem_of_getElem? (i := 61) (by decide +kernel)) (by decide +kernel)
theorem lf_X0_52 : LF RX0 52 0 13 false := ⟨(RX0, TX0, 14), rfl, rfl, by decide, uw_0, mw_61, tyX0_ok, nmX0, rfl, fun h => absurd h (by decide)⟩
theorem mw_62 : (Cond.fieldLink "SoupOrHorses" (384 : Nat) "SoupOrHorses$Camp" "seed" "I") ∈ WS := tb_1 (List.mem_of_getElem? (i := 62) (by decide +kernel)) (by decide +kernel)
theorem lf_X9_384 : LF RX9 384 0 13 false := ⟨(RX0, TX0, 14), rfl, rfl, by decide, uw_0, mw_62, tyX0_ok, nmX0, rfl, fun h => absurd h (by decide)⟩
theorem mw_100 : (Cond.fieldLink "SoupOrHorses$Shelf" (11 : Nat) "SoupOrHorses$Shelf" "elements" "[J") ∈ WS := tb_1 (List.mem_of_getElem? (i := 100) (by decide +kernel)) (by decide +kernel)
theorem lf_X7_11 : LF RX7 11 4 0 true := ⟨(RX7, TX7, 3), rfl, rfl, by decide, uw_4, mw_100, tyX7_ok, nmX7, rfl, fun _ => rfl⟩
theorem mw_101 : (Cond.fieldLink "SoupOrHorses$Shelf" (15 : Nat) "SoupOrHorses$Shelf" "content" "I") ∈ WS := tb_1 (List.mem_of_getElem? (i := 101) (by decide +kernel)) (by decide +kernel)
theorem lf_X7_15 : LF RX7 15 4 1 false := ⟨(RX7, TX7, 3), rfl, rfl, by decide, uw_4, mw_101, tyX7_ok, nmX7, rfl, fun h => absurd h (by decide)⟩
theorem mw_102 : (Cond.fieldLink "SoupOrHorses" (96 : Nat) "SoupOrHorses$Shelf" "content" "I") ∈ WS := tb_1 (List.mem_of_getElem? (i := 102) (by decide +kernel)) (by decide +kernel)
theorem lf_X9_96 : LF RX9 96 4 1 false := ⟨(RX7, TX7, 3), rfl, rfl, by decide, uw_4, mw_102, tyX7_ok, nmX7, rfl, fun h => absurd h (by decide)⟩
theorem mw_103 : (Cond.fieldLink "SoupOrHorses$Shelf" (19 : Nat) "SoupOrHorses$Shelf" "size" "I") ∈ WS := tb_1 (List.mem_of_getElem? (i := 103) (by decide +kernel)) (by decide +kernel)
theorem lf_X7_19 : LF RX7 19 4 2 false := ⟨(RX7, TX7, 3), rfl, rfl, by decide, uw_4, mw_103, tyX7_ok, nmX7, rfl, fun h => absurd h (by decide)⟩
theorem mw_104 : (Cond.fieldLink "SoupOrHorses" (146 : Nat) "SoupOrHorses$Shelf" "size" "I") ∈ WS := tb_1 (List.mem_of_getElem? (i := 104) (by decide +kernel)) (by decide +kernel)
theorem lf_X9_146 : LF RX9 146 4 2 false := ⟨(RX7, TX7, 3), rfl, rfl, by decide, uw_4, mw_104, tyX7_ok, nmX7, rfl, fun h => absurd h (by decide)⟩
theorem mw_119 : (Cond.fieldLink "SoupOrHorses$Tape" (11 : Nat) "SoupOrHorses$Tape" "bytes" "[I") ∈ WS := tb_1 (List.mem_of_getElem? (i := 119) (by decide +kernel)) (by decide +kernel)
theorem lf_X8_11 : LF RX8 11 5 0 true := ⟨(RX8, TX8, 4), rfl, rfl, by decide, uw_5, mw_119, tyX8_ok, nmX8, rfl, fun _ => rfl⟩
theorem mw_120 : (Cond.fieldLink "SoupOrHorses$Tape" (15 : Nat) "SoupOrHorses$Tape" "size" "I") ∈ WS := tb_1 (List.mem_of_getElem? (i := 120) (by decide +kernel)) (by decide +kernel)
theorem lf_X8_15 : LF RX8 15 5 1 false := ⟨(RX8, TX8, 4), rfl, rfl, by decide, uw_5, mw_120, tyX8_ok, nmX8, rfl, fun h => absurd h (by decide)⟩
theorem mw_121 : (Cond.fieldLink "SoupOrHorses$Reader" (12 : Nat) "SoupOrHorses$Tape" "size" "I") ∈ WS := tb_1 (List.mem_of_getElem? (i := 121) (by decide +kernel)) (by decide +kernel)
theorem lf_X5_12 : LF RX5 12 5 1 false := ⟨(RX8, TX8, 4), rfl, rfl, by decide, uw_5, mw_121, tyX8_ok, nmX8, rfl, fun h => absurd h (by decide)⟩
theorem mw_122 : (Cond.fieldLink "SoupOrHorses" (396 : Nat) "SoupOrHorses$Tape" "size" "I") ∈ WS := tb_1 (List.mem_of_getElem? (i := 122) (by decide +kernel)) (by decide +kernel)
theorem lf_X9_396 : LF RX9 396 5 1 false := ⟨(RX8, TX8, 4), rfl, rfl, by decide, uw_5, mw_122, tyX8_ok, nmX8, rfl, fun h => absurd h (by decide)⟩
theorem mw_123 : (Cond.fieldLink "SoupOrHorses$Tape" (19 : Nat) "SoupOrHorses$Tape" "start" "I") ∈ WS := tb_1 (List.mem_of_getElem? (i := 123) (by decide +kernel)) (by decide +kernel)
theorem lf_X8_19 : LF RX8 19 5 2 false := ⟨(RX8, TX8, 4), rfl, rfl, by decide, uw_5, mw_123, tyX8_ok, nmX8, rfl, fun h => absurd h (by decide)⟩
theorem mw_124 : (Cond.fieldLink "SoupOrHorses$Reader" (22 : Nat) "SoupOrHorses$Tape" "start" "I") ∈ WS := tb_1 (List.mem_of_getElem? (i := 124) (by decide +kernel)) (by decide +kernel)
theorem lf_X5_22 : LF RX5 22 5 2 false := ⟨(RX8, TX8, 4), rfl, rfl, by decide, uw_5, mw_124, tyX8_ok, nmX8, rfl, fun h => absurd h (by decide)⟩
theorem mw_125 : (Cond.fieldLink "SoupOrHorses$Tape" (22 : Nat) "SoupOrHorses$Tape" "end" "I") ∈ WS := tb_1 (List.mem_of_getElem? (i := 125) (by decide +kernel)) (by decide +kernel)
theorem lf_X8_22 : LF RX8 22 5 3 false := ⟨(RX8, TX8, 4), rfl, rfl, by decide, uw_5, mw_125, tyX8_ok, nmX8, rfl, fun h => absurd h (by decide)⟩
theorem mw_141 : (Cond.fieldLink "SoupOrHorses$Hearing" (9 : Nat) "SoupOrHorses$Hearing" "heardNotes" "[I") ∈ WS := tb_1 (List.mem_of_getElem? (i := 141) (by decide +kernel)) (by decide +kernel)
theorem lf_X2_9 : LF RX2 9 2 0 true := ⟨(RX2, TX2, 3), rfl, rfl, by decide, uw_2, mw_141, tyX2_ok, nmX2, rfl, fun _ => rfl⟩
theorem mw_142 : (Cond.fieldLink "SoupOrHorses$Hearing" (15 : Nat) "SoupOrHorses$Hearing" "size" "I") ∈ WS := tb_1 (List.mem_of_getElem? (i := 142) (by decide +kernel)) (by decide +kernel)
theorem lf_X2_15 : LF RX2 15 2 1 false := ⟨(RX2, TX2, 3), rfl, rfl, by decide, uw_2, mw_142, tyX2_ok, nmX2, rfl, fun h => absurd h (by decide)⟩
theorem mw_143 : (Cond.fieldLink "SoupOrHorses$Sense" (40 : Nat) "SoupOrHorses$Hearing" "size" "I") ∈ WS := tb_1 (List.mem_of_getElem? (i := 143) (by decide +kernel)) (by decide +kernel)
theorem lf_X6_40 : LF RX6 40 2 1 false := ⟨(RX2, TX2, 3), rfl, rfl, by decide, uw_2, mw_143, tyX2_ok, nmX2, rfl, fun h => absurd h (by decide)⟩
theorem mw_144 : (Cond.fieldLink "SoupOrHorses$Shelf" (44 : Nat) "SoupOrHorses$Hearing" "size" "I") ∈ WS := tb_1 (List.mem_of_getElem? (i := 144) (by decide +kernel)) (by decide +kernel)
theorem lf_X7_44 : LF RX7 44 2 1 false := ⟨(RX2, TX2, 3), rfl, rfl, by decide, uw_2, mw_144, tyX2_ok, nmX2, rfl, fun h => absurd h (by decide)⟩
theorem mw_145 : (Cond.fieldLink "SoupOrHorses$Hearing" (19 : Nat) "SoupOrHorses$Hearing" "isOver" "Z") ∈ WS := tb_1 (List.mem_of_getElem? (i := 145) (by decide +kernel)) (by decide +kernel)
theorem lf_X2_19 : LF RX2 19 2 2 false := ⟨(RX2, TX2, 3), rfl, rfl, by decide, uw_2, mw_145, tyX2_ok, nmX2, rfl, fun h => absurd h (by decide)⟩
theorem mw_146 : (Cond.fieldLink "SoupOrHorses$Sense" (44 : Nat) "SoupOrHorses$Hearing" "isOver" "Z") ∈ WS := tb_1 (List.mem_of_getElem? (i := 146) (by decide +kernel)) (by decide +kernel)
theorem lf_X6_44 : LF RX6 44 2 2 false := ⟨(RX2, TX2, 3), rfl, rfl, by decide, uw_2, mw_146, tyX2_ok, nmX2, rfl, fun h => absurd h (by decide)⟩
theorem mw_160 : (Cond.fieldLink "SoupOrHorses$Crowd" (11 : Nat) "SoupOrHorses$Crowd" "guesses" "[I") ∈ WS := tb_1 (List.mem_of_getElem? (i := 160) (by decide +kernel)) (by decide +kernel)
theorem lf_X1_11 : LF RX1 11 1 0 true := ⟨(RX1, TX1, 5), rfl, rfl, by decide, uw_1, mw_160, tyX1_ok, nmX1, rfl, fun _ => rfl⟩
theorem mw_161 : (Cond.fieldLink "SoupOrHorses$Crowd" (17 : Nat) "SoupOrHorses$Crowd" "likelies" "[I") ∈ WS := tb_1 (List.mem_of_getElem? (i := 161) (by decide +kernel)) (by decide +kernel)
theorem lf_X1_17 : LF RX1 17 1 1 true := ⟨(RX1, TX1, 5), rfl, rfl, by decide, uw_1, mw_161, tyX1_ok, nmX1, rfl, fun _ => rfl⟩
theorem mw_162 : (Cond.fieldLink "SoupOrHorses$Crowd" (20 : Nat) "SoupOrHorses$Crowd" "deeds" "[I") ∈ WS := tb_1 (List.mem_of_getElem? (i := 162) (by decide +kernel)) (by decide +kernel)
theorem lf_X1_20 : LF RX1 20 1 2 true := ⟨(RX1, TX1, 5), rfl, rfl, by decide, uw_1, mw_162, tyX1_ok, nmX1, rfl, fun _ => rfl⟩
theorem mw_163 : (Cond.fieldLink "SoupOrHorses$Crowd" (23 : Nat) "SoupOrHorses$Crowd" "tally" "[I") ∈ WS := tb_1 (List.mem_of_getElem? (i := 163) (by decide +kernel)) (by decide +kernel)
theorem lf_X1_23 : LF RX1 23 1 3 true := ⟨(RX1, TX1, 5), rfl, rfl, by decide, uw_1, mw_163, tyX1_ok, nmX1, rfl, fun _ => rfl⟩
theorem mw_164 : (Cond.fieldLink "SoupOrHorses$Crowd" (26 : Nat) "SoupOrHorses$Crowd" "men" "I") ∈ WS := tb_1 (List.mem_of_getElem? (i := 164) (by decide +kernel)) (by decide +kernel)
theorem lf_X1_26 : LF RX1 26 1 4 false := ⟨(RX1, TX1, 5), rfl, rfl, by decide, uw_1, mw_164, tyX1_ok, nmX1, rfl, fun h => absurd h (by decide)⟩
theorem mw_182 : (Cond.fieldLink "SoupOrHorses$Likeness" (11 : Nat) "SoupOrHorses$Likeness" "tooNear" "[I") ∈ WS := tb_1 (List.mem_of_getElem? (i := 182) (by decide +kernel)) (by decide +kernel)
theorem lf_X4_11 : LF RX4 11 3 0 true := ⟨(RX4, TX4, 1), rfl, rfl, by decide, uw_3, mw_182, tyX4_ok, nmX4, rfl, fun _ => rfl⟩
theorem mw_186 : (Cond.fieldLink "SoupOrHorses" (10 : Nat) "SoupOrHorses" "now" "LSoupOrHorses$Camp;") ∈ WS := tb_1 (List.mem_of_getElem? (i := 186) (by decide +kernel)) (by decide +kernel)
theorem lf_X9_10 : LF RX9 10 6 0 true := ⟨(RX9, TX9, 10), rfl, rfl, by decide, uw_6, mw_186, tyX9_ok, nmX9, rfl, fun _ => rfl⟩
theorem mw_187 : (Cond.fieldLink "SoupOrHorses" (16 : Nat) "SoupOrHorses" "kept" "LSoupOrHorses$Camp;") ∈ WS := tb_1 (List.mem_of_getElem? (i := 187) (by decide +kernel)) (by decide +kernel)
theorem lf_X9_16 : LF RX9 16 6 1 true := ⟨(RX9, TX9, 10), rfl, rfl, by decide, uw_6, mw_187, tyX9_ok, nmX9, rfl, fun _ => rfl⟩
theorem mw_188 : (Cond.fieldLink "SoupOrHorses" (19 : Nat) "SoupOrHorses" "draft" "LSoupOrHorses$Camp;") ∈ WS := tb_1 (List.mem_of_getElem? (i := 188) (by decide +kernel)) (by decide +kernel)
theorem lf_X9_19 : LF RX9 19 6 2 true := ⟨(RX9, TX9, 10), rfl, rfl, by decide, uw_6, mw_188, tyX9_ok, nmX9, rfl, fun _ => rfl⟩
theorem mw_189 : (Cond.fieldLink "SoupOrHorses" (22 : Nat) "SoupOrHorses" "isKept" "Z") ∈ WS := tb_1 (List.mem_of_getElem? (i := 189) (by decide +kernel)) (by decide +kernel)
theorem lf_X9_22 : LF RX9 22 6 3 false := ⟨(RX9, TX9, 10), rfl, rfl, by decide, uw_6, mw_189, tyX9_ok, nmX9, rfl, fun h => absurd h (by decide)⟩
theorem mw_190 : (Cond.fieldLink "SoupOrHorses" (28 : Nat) "SoupOrHorses" "shelves" "[LSoupOrHorses$Shelf;") ∈ WS := tb_1 (List.mem_of_getElem? (i := 190) (by decide +kernel)) (by decide +kernel)
theorem lf_X9_28 : LF RX9 28 6 4 true := ⟨(RX9, TX9, 10), rfl, rfl, by decide, uw_6, mw_190, tyX9_ok, nmX9, rfl, fun _ => rfl⟩
theorem mw_191 : (Cond.fieldLink "SoupOrHorses" (36 : Nat) "SoupOrHorses" "tape" "LSoupOrHorses$Tape;") ∈ WS := tb_1 (List.mem_of_getElem? (i := 191) (by decide +kernel)) (by decide +kernel)
theorem lf_X9_36 : LF RX9 36 6 5 true := ⟨(RX9, TX9, 10), rfl, rfl, by decide, uw_6, mw_191, tyX9_ok, nmX9, rfl, fun _ => rfl⟩
theorem mw_192 : (Cond.fieldLink "SoupOrHorses" (43 : Nat) "SoupOrHorses" "hearing" "LSoupOrHorses$Hearing;") ∈ WS := tb_1 (List.mem_of_getElem? (i := 192) (by decide +kernel)) (by decide +kernel)
theorem lf_X9_43 : LF RX9 43 6 6 true := ⟨(RX9, TX9, 10), rfl, rfl, by decide, uw_6, mw_192, tyX9_ok, nmX9, rfl, fun _ => rfl⟩
theorem mw_193 : (Cond.fieldLink "SoupOrHorses" (50 : Nat) "SoupOrHorses" "crowd" "LSoupOrHorses$Crowd;") ∈ WS := tb_1 (List.mem_of_getElem? (i := 193) (by decide +kernel)) (by decide +kernel)
theorem lf_X9_50 : LF RX9 50 6 7 true := ⟨(RX9, TX9, 10), rfl, rfl, by decide, uw_6, mw_193, tyX9_ok, nmX9, rfl, fun _ => rfl⟩
theorem mw_194 : (Cond.fieldLink "SoupOrHorses" (57 : Nat) "SoupOrHorses" "likeness" "LSoupOrHorses$Likeness;") ∈ WS := tb_1 (List.mem_of_getElem? (i := 194) (by decide +kernel)) (by decide +kernel)
theorem lf_X9_57 : LF RX9 57 6 8 true := ⟨(RX9, TX9, 10), rfl, rfl, by decide, uw_6, mw_194, tyX9_ok, nmX9, rfl, fun _ => rfl⟩
theorem mw_195 : (Cond.fieldLink "SoupOrHorses" (61 : Nat) "SoupOrHorses" "refusals" "[I") ∈ WS := tb_1 (List.mem_of_getElem? (i := 195) (by decide +kernel)) (by decide +kernel)
theorem lf_X9_61 : LF RX9 61 6 9 true := ⟨(RX9, TX9, 10), rfl, rfl, by decide, uw_6, mw_195, tyX9_ok, nmX9, rfl, fun _ => rfl⟩
theorem mw_1096 : (Cond.fieldLink "SoupOrHorsesModel" (7 : Nat) "SoupOrHorsesModel" "shelf" "[I") ∈ WS := tb_5 (List.mem_of_getElem? (i := 136) (by decide +kernel)) (by decide +kernel)
theorem lf_X10_7 : LF RX10 7 7 0 true := ⟨(RX10, TX10, 38), rfl, rfl, by decide, uw_7, mw_1096, tyX10_ok, nmX10, rfl, fun _ => rfl⟩
theorem mw_1097 : (Cond.fieldLink "SoupOrHorsesModel" (13 : Nat) "SoupOrHorsesModel" "rowSort" "[I") ∈ WS := tb_5 (List.mem_of_getElem? (i := 137) (by decide +kernel)) (by decide +kernel)
theorem lf_X10_13 : LF RX10 13 7 1 true := ⟨(RX10, TX10, 38), rfl, rfl, by decide, uw_7, mw_1097, tyX10_ok, nmX10, rfl, fun _ => rfl⟩
theorem mw_1098 : (Cond.fieldLink "SoupOrHorsesModel" (16 : Nat) "SoupOrHorsesModel" "rowSize" "[I") ∈ WS := tb_5 (List.mem_of_getElem? (i := 138) (by decide +kernel)) (by decide +kernel)
theorem lf_X10_16 : LF RX10 16 7 2 true := ⟨(RX10, TX10, 38), rfl, rfl, by decide, uw_7, mw_1098, tyX10_ok, nmX10, rfl, fun _ => rfl⟩
theorem mw_1099 : (Cond.fieldLink "SoupOrHorsesModel" (21 : Nat) "SoupOrHorsesModel" "rows" "[[J") ∈ WS := tb_5 (List.mem_of_getElem? (i := 139) (by decide +kernel)) (by decide +kernel)
theorem lf_X10_21 : LF RX10 21 7 3 true := ⟨(RX10, TX10, 38), rfl, rfl, by decide, uw_7, mw_1099, tyX10_ok, nmX10, rfl, fun _ => rfl⟩
theorem mw_1100 : (Cond.fieldLink "SoupOrHorsesModel" (24 : Nat) "SoupOrHorsesModel" "moved" "[J") ∈ WS := tb_5 (List.mem_of_getElem? (i := 140) (by decide +kernel)) (by decide +kernel)
theorem lf_X10_24 : LF RX10 24 7 4 true := ⟨(RX10, TX10, 38), rfl, rfl, by decide, uw_7, mw_1100, tyX10_ok, nmX10, rfl, fun _ => rfl⟩
theorem mw_1101 : (Cond.fieldLink "SoupOrHorsesModel" (28 : Nat) "SoupOrHorsesModel" "shown" "[I") ∈ WS := tb_5 (List.mem_of_getElem? (i := 141) (by decide +kernel)) (by decide +kernel)
theorem lf_X10_28 : LF RX10 28 7 5 true := ⟨(RX10, TX10, 38), rfl, rfl, by decide, uw_7, mw_1101, tyX10_ok, nmX10, rfl, fun _ => rfl⟩
theorem mw_1102 : (Cond.fieldLink "SoupOrHorsesModel" (31 : Nat) "SoupOrHorsesModel" "tape" "[I") ∈ WS := tb_5 (List.mem_of_getElem? (i := 142) (by decide +kernel)) (by decide +kernel)
theorem lf_X10_31 : LF RX10 31 7 6 true := ⟨(RX10, TX10, 38), rfl, rfl, by decide, uw_7, mw_1102, tyX10_ok, nmX10, rfl, fun _ => rfl⟩
theorem mw_1103 : (Cond.fieldLink "SoupOrHorsesModel" (164 : Nat) "SoupOrHorsesModel" "tapeSize" "I") ∈ WS := tb_5 (List.mem_of_getElem? (i := 143) (by decide +kernel)) (by decide +kernel)
theorem lf_X10_164 : LF RX10 164 7 7 false := ⟨(RX10, TX10, 38), rfl, rfl, by decide, uw_7, mw_1103, tyX10_ok, nmX10, rfl, fun h => absurd h (by decide)⟩
theorem mw_1104 : (Cond.fieldLink "SoupOrHorsesModel" (34 : Nat) "SoupOrHorsesModel" "refused" "[I") ∈ WS := tb_5 (List.mem_of_getElem? (i := 144) (by decide +kernel)) (by decide +kernel)
theorem lf_X10_34 : LF RX10 34 7 8 true := ⟨(RX10, TX10, 38), rfl, rfl, by decide, uw_7, mw_1104, tyX10_ok, nmX10, rfl, fun _ => rfl⟩
theorem mw_1105 : (Cond.fieldLink "SoupOrHorsesModel" (88 : Nat) "SoupOrHorsesModel" "calls" "I") ∈ WS := tb_5 (List.mem_of_getElem? (i := 145) (by decide +kernel)) (by decide +kernel)
theorem lf_X10_88 : LF RX10 88 7 9 false := ⟨(RX10, TX10, 38), rfl, rfl, by decide, uw_7, mw_1105, tyX10_ok, nmX10, rfl, fun h => absurd h (by decide)⟩
theorem mw_1106 : (Cond.fieldLink "SoupOrHorsesModel" (39 : Nat) "SoupOrHorsesModel" "notes" "[[I") ∈ WS := tb_5 (List.mem_of_getElem? (i := 146) (by decide +kernel)) (by decide +kernel)
theorem lf_X10_39 : LF RX10 39 7 10 true := ⟨(RX10, TX10, 38), rfl, rfl, by decide, uw_7, mw_1106, tyX10_ok, nmX10, rfl, fun _ => rfl⟩
theorem mw_1107 : (Cond.fieldLink "SoupOrHorsesModel" (42 : Nat) "SoupOrHorsesModel" "size" "[I") ∈ WS := tb_5 (List.mem_of_getElem? (i := 147) (by decide +kernel)) (by decide +kernel)
theorem lf_X10_42 : LF RX10 42 7 11 true := ⟨(RX10, TX10, 38), rfl, rfl, by decide, uw_7, mw_1107, tyX10_ok, nmX10, rfl, fun _ => rfl⟩
theorem mw_1108 : (Cond.fieldLink "SoupOrHorsesModel" (45 : Nat) "SoupOrHorsesModel" "use" "[I") ∈ WS := tb_5 (List.mem_of_getElem? (i := 148) (by decide +kernel)) (by decide +kernel)
theorem lf_X10_45 : LF RX10 45 7 12 true := ⟨(RX10, TX10, 38), rfl, rfl, by decide, uw_7, mw_1108, tyX10_ok, nmX10, rfl, fun _ => rfl⟩
theorem mw_1109 : (Cond.fieldLink "SoupOrHorsesModel" (48 : Nat) "SoupOrHorsesModel" "cost" "[I") ∈ WS := tb_5 (List.mem_of_getElem? (i := 149) (by decide +kernel)) (by decide +kernel)
theorem lf_X10_48 : LF RX10 48 7 13 true := ⟨(RX10, TX10, 38), rfl, rfl, by decide, uw_7, mw_1109, tyX10_ok, nmX10, rfl, fun _ => rfl⟩
theorem mw_1110 : (Cond.fieldLink "SoupOrHorsesModel" (95 : Nat) "SoupOrHorsesModel" "ears" "I") ∈ WS := tb_5 (List.mem_of_getElem? (i := 150) (by decide +kernel)) (by decide +kernel)
theorem lf_X10_95 : LF RX10 95 7 14 false := ⟨(RX10, TX10, 38), rfl, rfl, by decide, uw_7, mw_1110, tyX10_ok, nmX10, rfl, fun h => absurd h (by decide)⟩
theorem mw_1111 : (Cond.fieldLink "SoupOrHorsesModel" (51 : Nat) "SoupOrHorsesModel" "kind" "[I") ∈ WS := tb_5 (List.mem_of_getElem? (i := 151) (by decide +kernel)) (by decide +kernel)
theorem lf_X10_51 : LF RX10 51 7 15 true := ⟨(RX10, TX10, 38), rfl, rfl, by decide, uw_7, mw_1111, tyX10_ok, nmX10, rfl, fun _ => rfl⟩
theorem mw_1112 : (Cond.fieldLink "SoupOrHorsesModel" (54 : Nat) "SoupOrHorsesModel" "by" "[I") ∈ WS := tb_5 (List.mem_of_getElem? (i := 152) (by decide +kernel)) (by decide +kernel)
theorem lf_X10_54 : LF RX10 54 7 16 true := ⟨(RX10, TX10, 38), rfl, rfl, by decide, uw_7, mw_1112, tyX10_ok, nmX10, rfl, fun _ => rfl⟩
theorem mw_1113 : (Cond.fieldLink "SoupOrHorsesModel" (98 : Nat) "SoupOrHorsesModel" "men" "I") ∈ WS := tb_5 (List.mem_of_getElem? (i := 153) (by decide +kernel)) (by decide +kernel)
theorem lf_X10_98 : LF RX10 98 7 17 false := ⟨(RX10, TX10, 38), rfl, rfl, by decide, uw_7, mw_1113, tyX10_ok, nmX10, rfl, fun h => absurd h (by decide)⟩
theorem mw_1114 : (Cond.fieldLink "SoupOrHorsesModel" (57 : Nat) "SoupOrHorsesModel" "earOf" "[I") ∈ WS := tb_5 (List.mem_of_getElem? (i := 154) (by decide +kernel)) (by decide +kernel)
theorem lf_X10_57 : LF RX10 57 7 18 true := ⟨(RX10, TX10, 38), rfl, rfl, by decide, uw_7, mw_1114, tyX10_ok, nmX10, rfl, fun _ => rfl⟩
theorem mw_1115 : (Cond.fieldLink "SoupOrHorsesModel" (60 : Nat) "SoupOrHorsesModel" "looks" "[I") ∈ WS := tb_5 (List.mem_of_getElem? (i := 155) (by decide +kernel)) (by decide +kernel)
theorem lf_X10_60 : LF RX10 60 7 19 true := ⟨(RX10, TX10, 38), rfl, rfl, by decide, uw_7, mw_1115, tyX10_ok, nmX10, rfl, fun _ => rfl⟩
theorem mw_1116 : (Cond.fieldLink "SoupOrHorsesModel" (63 : Nat) "SoupOrHorsesModel" "sure" "I") ∈ WS := tb_5 (List.mem_of_getElem? (i := 156) (by decide +kernel)) (by decide +kernel)
theorem lf_X10_63 : LF RX10 63 7 20 false := ⟨(RX10, TX10, 38), rfl, rfl, by decide, uw_7, mw_1116, tyX10_ok, nmX10, rfl, fun h => absurd h (by decide)⟩
theorem mw_1117 : (Cond.fieldLink "SoupOrHorsesModel" (67 : Nat) "SoupOrHorsesModel" "lost" "I") ∈ WS := tb_5 (List.mem_of_getElem? (i := 157) (by decide +kernel)) (by decide +kernel)
theorem lf_X10_67 : LF RX10 67 7 21 false := ⟨(RX10, TX10, 38), rfl, rfl, by decide, uw_7, mw_1117, tyX10_ok, nmX10, rfl, fun h => absurd h (by decide)⟩
theorem mw_1118 : (Cond.fieldLink "SoupOrHorsesModel" (70 : Nat) "SoupOrHorsesModel" "seed" "I") ∈ WS := tb_5 (List.mem_of_getElem? (i := 158) (by decide +kernel)) (by decide +kernel)
theorem lf_X10_70 : LF RX10 70 7 22 false := ⟨(RX10, TX10, 38), rfl, rfl, by decide, uw_7, mw_1118, tyX10_ok, nmX10, rfl, fun h => absurd h (by decide)⟩
theorem mw_1119 : (Cond.fieldLink "SoupOrHorsesModel" (346 : Nat) "SoupOrHorsesModel" "kept" "LSoupOrHorsesModel;") ∈ WS := tb_5 (List.mem_of_getElem? (i := 159) (by decide +kernel)) (by decide +kernel)
theorem lf_X10_346 : LF RX10 346 7 23 false := ⟨(RX10, TX10, 38), rfl, rfl, by decide, uw_7, mw_1119, tyX10_ok, nmX10, rfl, fun h => absurd h (by decide)⟩
theorem mw_1120 : (Cond.fieldLink "SoupOrHorsesModel" (233 : Nat) "SoupOrHorsesModel" "tried" "LSoupOrHorsesModel;") ∈ WS := tb_5 (List.mem_of_getElem? (i := 160) (by decide +kernel)) (by decide +kernel)
theorem lf_X10_233 : LF RX10 233 7 24 false := ⟨(RX10, TX10, 38), rfl, rfl, by decide, uw_7, mw_1120, tyX10_ok, nmX10, rfl, fun h => absurd h (by decide)⟩
theorem mw_1121 : (Cond.fieldLink "SoupOrHorsesModel" (167 : Nat) "SoupOrHorsesModel" "at" "I") ∈ WS := tb_5 (List.mem_of_getElem? (i := 161) (by decide +kernel)) (by decide +kernel)
theorem lf_X10_167 : LF RX10 167 7 25 false := ⟨(RX10, TX10, 38), rfl, rfl, by decide, uw_7, mw_1121, tyX10_ok, nmX10, rfl, fun h => absurd h (by decide)⟩
theorem mw_1122 : (Cond.fieldLink "SoupOrHorsesModel" (176 : Nat) "SoupOrHorsesModel" "token" "I") ∈ WS := tb_5 (List.mem_of_getElem? (i := 162) (by decide +kernel)) (by decide +kernel)
theorem lf_X10_176 : LF RX10 176 7 26 false := ⟨(RX10, TX10, 38), rfl, rfl, by decide, uw_7, mw_1122, tyX10_ok, nmX10, rfl, fun h => absurd h (by decide)⟩
theorem mw_1123 : (Cond.fieldLink "SoupOrHorsesModel" (170 : Nat) "SoupOrHorsesModel" "from" "I") ∈ WS := tb_5 (List.mem_of_getElem? (i := 163) (by decide +kernel)) (by decide +kernel)
theorem lf_X10_170 : LF RX10 170 7 27 false := ⟨(RX10, TX10, 38), rfl, rfl, by decide, uw_7, mw_1123, tyX10_ok, nmX10, rfl, fun h => absurd h (by decide)⟩
theorem mw_1124 : (Cond.fieldLink "SoupOrHorsesModel" (173 : Nat) "SoupOrHorsesModel" "figures" "I") ∈ WS := tb_5 (List.mem_of_getElem? (i := 164) (by decide +kernel)) (by decide +kernel)
theorem lf_X10_173 : LF RX10 173 7 28 false := ⟨(RX10, TX10, 38), rfl, rfl, by decide, uw_7, mw_1124, tyX10_ok, nmX10, rfl, fun h => absurd h (by decide)⟩
theorem mw_1125 : (Cond.fieldLink "SoupOrHorsesModel" (186 : Nat) "SoupOrHorsesModel" "fault" "I") ∈ WS := tb_5 (List.mem_of_getElem? (i := 165) (by decide +kernel)) (by decide +kernel)
theorem lf_X10_186 : LF RX10 186 7 29 false := ⟨(RX10, TX10, 38), rfl, rfl, by decide, uw_7, mw_1125, tyX10_ok, nmX10, rfl, fun h => absurd h (by decide)⟩
theorem mw_1126 : (Cond.fieldLink "SoupOrHorsesModel" (73 : Nat) "SoupOrHorsesModel" "told" "[I") ∈ WS := tb_5 (List.mem_of_getElem? (i := 166) (by decide +kernel)) (by decide +kernel)
theorem lf_X10_73 : LF RX10 73 7 30 true := ⟨(RX10, TX10, 38), rfl, rfl, by decide, uw_7, mw_1126, tyX10_ok, nmX10, rfl, fun _ => rfl⟩
theorem mw_1127 : (Cond.fieldLink "SoupOrHorsesModel" (227 : Nat) "SoupOrHorsesModel" "statements" "I") ∈ WS := tb_5 (List.mem_of_getElem? (i := 167) (by decide +kernel)) (by decide +kernel)
theorem lf_X10_227 : LF RX10 227 7 31 false := ⟨(RX10, TX10, 38), rfl, rfl, by decide, uw_7, mw_1127, tyX10_ok, nmX10, rfl, fun h => absurd h (by decide)⟩
theorem mw_1128 : (Cond.fieldLink "SoupOrHorsesModel" (76 : Nat) "SoupOrHorsesModel" "hearing" "[J") ∈ WS := tb_5 (List.mem_of_getElem? (i := 168) (by decide +kernel)) (by decide +kernel)
theorem lf_X10_76 : LF RX10 76 7 32 true := ⟨(RX10, TX10, 38), rfl, rfl, by decide, uw_7, mw_1128, tyX10_ok, nmX10, rfl, fun _ => rfl⟩
theorem mw_1129 : (Cond.fieldLink "SoupOrHorsesModel" (262 : Nat) "SoupOrHorsesModel" "much" "I") ∈ WS := tb_5 (List.mem_of_getElem? (i := 169) (by decide +kernel)) (by decide +kernel)
theorem lf_X10_262 : LF RX10 262 7 33 false := ⟨(RX10, TX10, 38), rfl, rfl, by decide, uw_7, mw_1129, tyX10_ok, nmX10, rfl, fun h => absurd h (by decide)⟩
theorem mw_1130 : (Cond.fieldLink "SoupOrHorsesModel" (258 : Nat) "SoupOrHorsesModel" "isOver" "Z") ∈ WS := tb_5 (List.mem_of_getElem? (i := 170) (by decide +kernel)) (by decide +kernel)
theorem lf_X10_258 : LF RX10 258 7 34 false := ⟨(RX10, TX10, 38), rfl, rfl, by decide, uw_7, mw_1130, tyX10_ok, nmX10, rfl, fun h => absurd h (by decide)⟩
theorem mw_1131 : (Cond.fieldLink "SoupOrHorsesModel" (79 : Nat) "SoupOrHorsesModel" "row" "[I") ∈ WS := tb_5 (List.mem_of_getElem? (i := 171) (by decide +kernel)) (by decide +kernel)
theorem lf_X10_79 : LF RX10 79 7 35 true := ⟨(RX10, TX10, 38), rfl, rfl, by decide, uw_7, mw_1131, tyX10_ok, nmX10, rfl, fun _ => rfl⟩
theorem mw_1132 : (Cond.fieldLink "SoupOrHorsesModel" (82 : Nat) "SoupOrHorsesModel" "doing" "[I") ∈ WS := tb_5 (List.mem_of_getElem? (i := 172) (by decide +kernel)) (by decide +kernel)
theorem lf_X10_82 : LF RX10 82 7 36 true := ⟨(RX10, TX10, 38), rfl, rfl, by decide, uw_7, mw_1132, tyX10_ok, nmX10, rfl, fun _ => rfl⟩
theorem mw_1133 : (Cond.fieldLink "SoupOrHorsesModel" (85 : Nat) "SoupOrHorsesModel" "own" "[I") ∈ WS := tb_5 (List.mem_of_getElem? (i := 173) (by decide +kernel)) (by decide +kernel)
theorem lf_X10_85 : LF RX10 85 7 37 true := ⟨(RX10, TX10, 38), rfl, rfl, by decide, uw_7, mw_1133, tyX10_ok, nmX10, rfl, fun _ => rfl⟩
theorem mw_20 : (Cond.classLink "SoupOrHorsesLaw" (7 : Nat) "SoupOrHorses") ∈ WS := tb_1 (List.mem_of_getElem? (i := 20) (by decide +kernel)) (by decide +kernel)
theorem mw_21 : (Cond.instantiable "SoupOrHorses" (10 : Nat)) ∈ WS := tb_1 (List.mem_of_getElem? (i := 21) (by decide +kernel)) (by decide +kernel)
theorem mw_1 : (Cond.initialized "SoupOrHorses") ∈ WS := tb_1 (List.mem_of_getElem? (i := 1) (by decide +kernel)) (by decide +kernel)
theorem ln_L_7 : LN RL 7 6 := ⟨(RX9, TX9, 10), rfl, rfl, uw_6, mw_20, mw_21, mw_1, tyX9_ok, by decide +kernel⟩
theorem mw_28 : (Cond.classLink "SoupOrHorses" (7 : Nat) "SoupOrHorses$Camp") ∈ WS := tb_1 (List.mem_of_getElem? (i := 28) (by decide +kernel)) (by decide +kernel)
theorem mw_29 : (Cond.instantiable "SoupOrHorses$Camp" (14 : Nat)) ∈ WS := tb_1 (List.mem_of_getElem? (i := 29) (by decide +kernel)) (by decide +kernel)
theorem mw_2 : (Cond.initialized "SoupOrHorses$Camp") ∈ WS := tb_1 (List.mem_of_getElem? (i := 2) (by decide +kernel)) (by decide +kernel)
theorem ln_X9_7 : LN RX9 7 0 := ⟨(RX0, TX0, 14), rfl, rfl, uw_0, mw_28, mw_29, mw_2, tyX0_ok, by decide +kernel⟩
theorem mw_92 : (Cond.arrayClass Jvm.ClassFile.FieldType.int) ∈ WS := tb_1 (List.mem_of_getElem? (i := 92) (by decide +kernel)) (by decide +kernel)
theorem mw_93 : (Cond.classLink "SoupOrHorses" (26 : Nat) "SoupOrHorses$Shelf") ∈ WS := tb_1 (List.mem_of_getElem? (i := 93) (by decide +kernel)) (by decide +kernel)
theorem mw_95 : (Cond.instantiable "SoupOrHorses$Shelf" (3 : Nat)) ∈ WS := tb_1 (List.mem_of_getElem? (i := 95) (by decide +kernel)) (by decide +kernel)
theorem mw_3 : (Cond.initialized "SoupOrHorses$Shelf") ∈ WS := tb_1 (List.mem_of_getElem? (i := 3) (by decide +kernel)) (by decide +kernel)
theorem ln_X9_26 : LN RX9 26 4 := ⟨(RX7, TX7, 3), rfl, rfl, uw_4, mw_93, mw_95, mw_3, tyX7_ok, by decide +kernel⟩
theorem mw_112 : (Cond.arrayClass Jvm.ClassFile.FieldType.long) ∈ WS := tb_1 (List.mem_of_getElem? (i := 112) (by decide +kernel)) (by decide +kernel)
theorem mw_113 : (Cond.classLink "SoupOrHorses" (33 : Nat) "SoupOrHorses$Tape") ∈ WS := tb_1 (List.mem_of_getElem? (i := 113) (by decide +kernel)) (by decide +kernel)
theorem mw_114 : (Cond.instantiable "SoupOrHorses$Tape" (4 : Nat)) ∈ WS := tb_1 (List.mem_of_getElem? (i := 114) (by decide +kernel)) (by decide +kernel)
theorem mw_4 : (Cond.initialized "SoupOrHorses$Tape") ∈ WS := tb_1 (List.mem_of_getElem? (i := 4) (by decide +kernel)) (by decide +kernel)
theorem ln_X9_33 : LN RX9 33 5 := ⟨(RX8, TX8, 4), rfl, rfl, uw_5, mw_113, mw_114, mw_4, tyX8_ok, by decide +kernel⟩
theorem mw_135 : (Cond.classLink "SoupOrHorses" (40 : Nat) "SoupOrHorses$Hearing") ∈ WS := tb_1 (List.mem_of_getElem? (i := 135) (by decide +kernel)) (by decide +kernel)
theorem mw_136 : (Cond.instantiable "SoupOrHorses$Hearing" (3 : Nat)) ∈ WS := tb_1 (List.mem_of_getElem? (i := 136) (by decide +kernel)) (by decide +kernel)
theorem mw_5 : (Cond.initialized "SoupOrHorses$Hearing") ∈ WS := tb_1 (List.mem_of_getElem? (i := 5) (by decide +kernel)) (by decide +kernel)
theorem ln_X9_40 : LN RX9 40 2 := ⟨(RX2, TX2, 3), rfl, rfl, uw_2, mw_135, mw_136, mw_5, tyX2_ok, by decide +kernel⟩
theorem mw_154 : (Cond.classLink "SoupOrHorses" (47 : Nat) "SoupOrHorses$Crowd") ∈ WS := tb_1 (List.mem_of_getElem? (i := 154) (by decide +kernel)) (by decide +kernel)
theorem mw_155 : (Cond.instantiable "SoupOrHorses$Crowd" (5 : Nat)) ∈ WS := tb_1 (List.mem_of_getElem? (i := 155) (by decide +kernel)) (by decide +kernel)
theorem mw_6 : (Cond.initialized "SoupOrHorses$Crowd") ∈ WS := tb_1 (List.mem_of_getElem? (i := 6) (by decide +kernel)) (by decide +kernel)
theorem ln_X9_47 : LN RX9 47 1 := ⟨(RX1, TX1, 5), rfl, rfl, uw_1, mw_154, mw_155, mw_6, tyX1_ok, by decide +kernel⟩
theorem mw_176 : (Cond.classLink "SoupOrHorses" (54 : Nat) "SoupOrHorses$Likeness") ∈ WS := tb_1 (List.mem_of_getElem? (i := 176) (by decide +kernel)) (by decide +kernel)
theorem mw_177 : (Cond.instantiable "SoupOrHorses$Likeness" (1 : Nat)) ∈ WS := tb_1 (List.mem_of_getElem? (i := 177) (by decide +kernel)) (by decide +kernel)
theorem mw_7 : (Cond.initialized "SoupOrHorses$Likeness") ∈ WS := tb_1 (List.mem_of_getElem? (i := 7) (by decide +kernel)) (by decide +kernel)
theorem ln_X9_54 : LN RX9 54 3 := ⟨(RX4, TX4, 1), rfl, rfl, uw_3, mw_176, mw_177, mw_7, tyX4_ok, by decide +kernel⟩
theorem mw_283 : (Cond.native ({ cls := "java/lang/System", name := "arraycopy", desc := "(Ljava/lang/Object;ILjava/lang/Object;II)V" } : Jvm.MethodName)) ∈ WS := tb_2 (List.mem_of_getElem? (i := 43) (by decide +kernel)) (by decide +kernel)
theorem mw_370 : (Cond.constantLong "SoupOrHorses$Camp" (55 : Nat) (4 : Int64)) ∈ WS := tb_2 (List.mem_of_getElem? (i := 130) (by decide +kernel)) (by decide +kernel)
theorem mw_620 : (Cond.arrayClass Jvm.ClassFile.FieldType.byte) ∈ WS := tb_3 (List.mem_of_getElem? (i := 140) (by decide +kernel)) (by decide +kernel)
theorem mw_686 : (Cond.constantLong "SoupOrHorses$Shelf" (83 : Nat) (9 : Int64)) ∈ WS := tb_3 (List.mem_of_getElem? (i := 206) (by decide +kernel)) (by decide +kernel)
theorem mw_743 : (Cond.constant "SoupOrHorses$Likeness" (17 : Nat) (2396745 : Int32)) ∈ WS := tb_4 (List.mem_of_getElem? (i := 23) (by decide +kernel)) (by decide +kernel)
theorem mw_747 : (Cond.constant "java/lang/Integer" (265 : Nat) (1431655765 : Int32)) ∈ WS := tb_4 (List.mem_of_getElem? (i := 27) (by decide +kernel)) (by decide +kernel)
theorem mw_748 : (Cond.constant "java/lang/Integer" (266 : Nat) (858993459 : Int32)) ∈ WS := tb_4 (List.mem_of_getElem? (i := 28) (by decide +kernel)) (by decide +kernel)
theorem mw_749 : (Cond.constant "java/lang/Integer" (267 : Nat) (252645135 : Int32)) ∈ WS := tb_4 (List.mem_of_getElem? (i := 29) (by decide +kernel)) (by decide +kernel)
theorem mw_1034 : (Cond.constant "SoupOrHorses$Camp" (90 : Nat) (1103515245 : Int32)) ∈ WS := tb_5 (List.mem_of_getElem? (i := 74) (by decide +kernel)) (by decide +kernel)
theorem mw_1086 : (Cond.classLink "SoupOrHorsesLaw" (10 : Nat) "SoupOrHorsesModel") ∈ WS := tb_5 (List.mem_of_getElem? (i := 126) (by decide +kernel)) (by decide +kernel)
theorem mw_1087 : (Cond.instantiable "SoupOrHorsesModel" (38 : Nat)) ∈ WS := tb_5 (List.mem_of_getElem? (i := 127) (by decide +kernel)) (by decide +kernel)
theorem mw_8 : (Cond.initialized "SoupOrHorsesModel") ∈ WS := tb_1 (List.mem_of_getElem? (i := 8) (by decide +kernel)) (by decide +kernel)
theorem ln_L_10 : LN RL 10 7 := ⟨(RX10, TX10, 38), rfl, rfl, uw_7, mw_1086, mw_1087, mw_8, tyX10_ok, by decide +kernel⟩
theorem mw_1092 : (Cond.classLink "SoupOrHorsesModel" (19 : Nat) "[[J") ∈ WS := tb_5 (List.mem_of_getElem? (i := 132) (by decide +kernel)) (by decide +kernel)
theorem mw_1094 : (Cond.classLink "SoupOrHorsesModel" (37 : Nat) "[[I") ∈ WS := tb_5 (List.mem_of_getElem? (i := 134) (by decide +kernel)) (by decide +kernel)
theorem mw_1215 : (Cond.constantLong "SoupOrHorsesModel" (101 : Nat) (7 : Int64)) ∈ WS := tb_6 (List.mem_of_getElem? (i := 15) (by decide +kernel)) (by decide +kernel)
theorem mw_1219 : (Cond.constantLong "SoupOrHorsesModel" (103 : Nat) (4 : Int64)) ∈ WS := tb_6 (List.mem_of_getElem? (i := 19) (by decide +kernel)) (by decide +kernel)
theorem mw_1220 : (Cond.constantLong "SoupOrHorsesModel" (105 : Nat) (40 : Int64)) ∈ WS := tb_6 (List.mem_of_getElem? (i := 20) (by decide +kernel)) (by decide +kernel)
theorem mw_1264 : (Cond.constantLong "SoupOrHorsesModel" (126 : Nat) (5 : Int64)) ∈ WS := tb_6 (List.mem_of_getElem? (i := 64) (by decide +kernel)) (by decide +kernel)
theorem mw_1280 : (Cond.constantLong "SoupOrHorsesModel" (139 : Nat) (8 : Int64)) ∈ WS := tb_6 (List.mem_of_getElem? (i := 80) (by decide +kernel)) (by decide +kernel)
theorem mw_1281 : (Cond.constantLong "SoupOrHorsesModel" (141 : Nat) (99 : Int64)) ∈ WS := tb_6 (List.mem_of_getElem? (i := 81) (by decide +kernel)) (by decide +kernel)
theorem mw_1290 : (Cond.constantLong "SoupOrHorsesModel" (146 : Nat) (9 : Int64)) ∈ WS := tb_6 (List.mem_of_getElem? (i := 90) (by decide +kernel)) (by decide +kernel)
theorem mw_1315 : (Cond.constantLong "SoupOrHorsesModel" (158 : Nat) (1000 : Int64)) ∈ WS := tb_6 (List.mem_of_getElem? (i := 115) (by decide +kernel)) (by decide +kernel)
theorem mw_1316 : (Cond.constantLong "SoupOrHorsesModel" (160 : Nat) (100 : Int64)) ∈ WS := tb_6 (List.mem_of_getElem? (i := 116) (by decide +kernel)) (by decide +kernel)
theorem mw_1321 : (Cond.constantLong "SoupOrHorsesModel" (162 : Nat) (255 : Int64)) ∈ WS := tb_6 (List.mem_of_getElem? (i := 121) (by decide +kernel)) (by decide +kernel)
theorem mw_1334 : (Cond.classLink "SoupOrHorsesModel" (8 : Nat) "SoupOrHorsesModel") ∈ WS := tb_6 (List.mem_of_getElem? (i := 134) (by decide +kernel)) (by decide +kernel)
theorem ln_X10_8 : LN RX10 8 7 := ⟨(RX10, TX10, 38), rfl, rfl, uw_7, mw_1334, mw_1087, mw_8, tyX10_ok, by decide +kernel⟩
theorem mw_1357 : (Cond.constant "SoupOrHorsesModel" (185 : Nat) (100000 : Int32)) ∈ WS := tb_6 (List.mem_of_getElem? (i := 157) (by decide +kernel)) (by decide +kernel)
theorem mw_1394 : (Cond.constantLong "SoupOrHorsesModel" (249 : Nat) (10 : Int64)) ∈ WS := tb_6 (List.mem_of_getElem? (i := 194) (by decide +kernel)) (by decide +kernel)
theorem mw_1622 : (Cond.constant "SoupOrHorsesModel" (335 : Nat) (1103515245 : Int32)) ∈ WS := tb_7 (List.mem_of_getElem? (i := 182) (by decide +kernel)) (by decide +kernel)
theorem mw_1650 : (Cond.constantLong "SoupOrHorsesModel" (353 : Nat) (12 : Int64)) ∈ WS := tb_7 (List.mem_of_getElem? (i := 210) (by decide +kernel)) (by decide +kernel)
theorem mw_1651 : (Cond.constantLong "SoupOrHorsesModel" (355 : Nat) (16 : Int64)) ∈ WS := tb_7 (List.mem_of_getElem? (i := 211) (by decide +kernel)) (by decide +kernel)
theorem mw_1652 : (Cond.constantLong "SoupOrHorsesLaw" (18 : Nat) (4294967295 : Int64)) ∈ WS := tb_7 (List.mem_of_getElem? (i := 212) (by decide +kernel)) (by decide +kernel)
theorem mw_32 : (Cond.code ({ cls := "SoupOrHorses$Camp", name := "<init>", desc := "()V" } : Jvm.MethodName) prog_2_method_1_code (1 : Nat) (Option.none : Option Jvm.ClassFile.FieldType)) ∈ WS := tb_1 (List.mem_of_getElem? (i := 32) (by decide +kernel)) (by decide +kernel)
theorem lc_X0_init : LC mX0_init 0 := ⟨mw_32, mw_2, by decide +kernel⟩
theorem mw_369 : (Cond.code ({ cls := "SoupOrHorses$Camp", name := "isNote", desc := "(J)Z" } : Jvm.MethodName) prog_2_method_2_code (2 : Nat) (Option.some Jvm.ClassFile.FieldType.boolean)) ∈ WS := tb_2 (List.mem_of_getElem? (i := 129) (by decide +kernel)) (by decide +kernel)
theorem lc_X0_isNote : LC mX0_isNote 1 := ⟨mw_369, mw_2, by decide +kernel⟩
theorem mw_358 : (Cond.code ({ cls := "SoupOrHorses$Camp", name := "isUse", desc := "(I)Z" } : Jvm.MethodName) prog_2_method_3_code (1 : Nat) (Option.some Jvm.ClassFile.FieldType.boolean)) ∈ WS := tb_2 (List.mem_of_getElem? (i := 118) (by decide +kernel)) (by decide +kernel)
theorem lc_X0_isUse : LC mX0_isUse 1 := ⟨mw_358, mw_2, by decide +kernel⟩
theorem mw_361 : (Cond.code ({ cls := "SoupOrHorses$Camp", name := "isCost", desc := "(I)Z" } : Jvm.MethodName) prog_2_method_4_code (1 : Nat) (Option.some Jvm.ClassFile.FieldType.boolean)) ∈ WS := tb_2 (List.mem_of_getElem? (i := 121) (by decide +kernel)) (by decide +kernel)
theorem lc_X0_isCost : LC mX0_isCost 1 := ⟨mw_361, mw_2, by decide +kernel⟩
theorem mw_407 : (Cond.code ({ cls := "SoupOrHorses$Camp", name := "isLook", desc := "(I)Z" } : Jvm.MethodName) prog_2_method_5_code (1 : Nat) (Option.some Jvm.ClassFile.FieldType.boolean)) ∈ WS := tb_2 (List.mem_of_getElem? (i := 167) (by decide +kernel)) (by decide +kernel)
theorem lc_X0_isLook : LC mX0_isLook 1 := ⟨mw_407, mw_2, by decide +kernel⟩
theorem mw_446 : (Cond.code ({ cls := "SoupOrHorses$Camp", name := "isSure", desc := "(I)Z" } : Jvm.MethodName) prog_2_method_6_code (1 : Nat) (Option.some Jvm.ClassFile.FieldType.boolean)) ∈ WS := tb_2 (List.mem_of_getElem? (i := 206) (by decide +kernel)) (by decide +kernel)
theorem lc_X0_isSure : LC mX0_isSure 1 := ⟨mw_446, mw_2, by decide +kernel⟩
theorem mw_449 : (Cond.code ({ cls := "SoupOrHorses$Camp", name := "isLost", desc := "(I)Z" } : Jvm.MethodName) prog_2_method_7_code (1 : Nat) (Option.some Jvm.ClassFile.FieldType.boolean)) ∈ WS := tb_2 (List.mem_of_getElem? (i := 209) (by decide +kernel)) (by decide +kernel)
theorem lc_X0_isLost : LC mX0_isLost 1 := ⟨mw_449, mw_2, by decide +kernel⟩
theorem mw_385 : (Cond.code ({ cls := "SoupOrHorses$Camp", name := "packedNote", desc := "(II)I" } : Jvm.MethodName) prog_2_method_8_code (2 : Nat) (Option.some Jvm.ClassFile.FieldType.int)) ∈ WS := tb_2 (List.mem_of_getElem? (i := 145) (by decide +kernel)) (by decide +kernel)
theorem lc_X0_packedNote : LC mX0_packedNote 2 := ⟨mw_385, mw_2, by decide +kernel⟩
theorem mw_477 : (Cond.code ({ cls := "SoupOrHorses$Camp", name := "takeAll", desc := "(LSoupOrHorses$Camp;)V" } : Jvm.MethodName) prog_2_method_9_code (2 : Nat) (Option.none : Option Jvm.ClassFile.FieldType)) ∈ WS := tb_2 (List.mem_of_getElem? (i := 237) (by decide +kernel)) (by decide +kernel)
theorem lc_X0_takeAll : LC mX0_takeAll 1 := ⟨mw_477, mw_2, by decide +kernel⟩
theorem mw_423 : (Cond.code ({ cls := "SoupOrHorses$Camp", name := "isCall", desc := "(I)Z" } : Jvm.MethodName) prog_2_method_10_code (2 : Nat) (Option.some Jvm.ClassFile.FieldType.boolean)) ∈ WS := tb_2 (List.mem_of_getElem? (i := 183) (by decide +kernel)) (by decide +kernel)
theorem lc_X0_isCall : LC mX0_isCall 1 := ⟨mw_423, mw_2, by decide +kernel⟩
theorem mw_303 : (Cond.code ({ cls := "SoupOrHorses$Camp", name := "isEar", desc := "(I)Z" } : Jvm.MethodName) prog_2_method_11_code (2 : Nat) (Option.some Jvm.ClassFile.FieldType.boolean)) ∈ WS := tb_2 (List.mem_of_getElem? (i := 63) (by decide +kernel)) (by decide +kernel)
theorem lc_X0_isEar : LC mX0_isEar 1 := ⟨mw_303, mw_2, by decide +kernel⟩
theorem mw_651 : (Cond.code ({ cls := "SoupOrHorses$Camp", name := "isMan", desc := "(I)Z" } : Jvm.MethodName) prog_2_method_12_code (2 : Nat) (Option.some Jvm.ClassFile.FieldType.boolean)) ∈ WS := tb_3 (List.mem_of_getElem? (i := 171) (by decide +kernel)) (by decide +kernel)
theorem lc_X0_isMan : LC mX0_isMan 1 := ⟨mw_651, mw_2, by decide +kernel⟩
theorem mw_374 : (Cond.code ({ cls := "SoupOrHorses$Camp", name := "hasRoomForCall", desc := "()Z" } : Jvm.MethodName) prog_2_method_13_code (1 : Nat) (Option.some Jvm.ClassFile.FieldType.boolean)) ∈ WS := tb_2 (List.mem_of_getElem? (i := 134) (by decide +kernel)) (by decide +kernel)
theorem lc_X0_hasRoomForCall : LC mX0_hasRoomForCall 0 := ⟨mw_374, mw_2, by decide +kernel⟩
theorem mw_396 : (Cond.code ({ cls := "SoupOrHorses$Camp", name := "hasRoomForEar", desc := "()Z" } : Jvm.MethodName) prog_2_method_14_code (1 : Nat) (Option.some Jvm.ClassFile.FieldType.boolean)) ∈ WS := tb_2 (List.mem_of_getElem? (i := 156) (by decide +kernel)) (by decide +kernel)
theorem lc_X0_hasRoomForEar : LC mX0_hasRoomForEar 0 := ⟨mw_396, mw_2, by decide +kernel⟩
theorem mw_411 : (Cond.code ({ cls := "SoupOrHorses$Camp", name := "hasRoomForMan", desc := "()Z" } : Jvm.MethodName) prog_2_method_15_code (1 : Nat) (Option.some Jvm.ClassFile.FieldType.boolean)) ∈ WS := tb_2 (List.mem_of_getElem? (i := 171) (by decide +kernel)) (by decide +kernel)
theorem lc_X0_hasRoomForMan : LC mX0_hasRoomForMan 0 := ⟨mw_411, mw_2, by decide +kernel⟩
theorem mw_378 : (Cond.code ({ cls := "SoupOrHorses$Camp", name := "addCall", desc := "(II)I" } : Jvm.MethodName) prog_2_method_16_code (3 : Nat) (Option.some Jvm.ClassFile.FieldType.int)) ∈ WS := tb_2 (List.mem_of_getElem? (i := 138) (by decide +kernel)) (by decide +kernel)
theorem lc_X0_addCall : LC mX0_addCall 2 := ⟨mw_378, mw_2, by decide +kernel⟩
theorem mw_382 : (Cond.code ({ cls := "SoupOrHorses$Camp", name := "addNote", desc := "(I)V" } : Jvm.MethodName) prog_2_method_17_code (3 : Nat) (Option.none : Option Jvm.ClassFile.FieldType)) ∈ WS := tb_2 (List.mem_of_getElem? (i := 142) (by decide +kernel)) (by decide +kernel)
theorem lc_X0_addNote : LC mX0_addNote 1 := ⟨mw_382, mw_2, by decide +kernel⟩
theorem mw_1055 : (Cond.code ({ cls := "SoupOrHorses$Camp", name := "removeLastCall", desc := "()I" } : Jvm.MethodName) prog_2_method_18_code (1 : Nat) (Option.some Jvm.ClassFile.FieldType.int)) ∈ WS := tb_5 (List.mem_of_getElem? (i := 95) (by decide +kernel)) (by decide +kernel)
theorem lc_X0_removeLastCall : LC mX0_removeLastCall 0 := ⟨mw_1055, mw_2, by decide +kernel⟩
theorem mw_400 : (Cond.code ({ cls := "SoupOrHorses$Camp", name := "addEar", desc := "(II)I" } : Jvm.MethodName) prog_2_method_19_code (3 : Nat) (Option.some Jvm.ClassFile.FieldType.int)) ∈ WS := tb_2 (List.mem_of_getElem? (i := 160) (by decide +kernel)) (by decide +kernel)
theorem lc_X0_addEar : LC mX0_addEar 2 := ⟨mw_400, mw_2, by decide +kernel⟩
theorem mw_415 : (Cond.code ({ cls := "SoupOrHorses$Camp", name := "addMan", desc := "(II)I" } : Jvm.MethodName) prog_2_method_20_code (3 : Nat) (Option.some Jvm.ClassFile.FieldType.int)) ∈ WS := tb_2 (List.mem_of_getElem? (i := 175) (by decide +kernel)) (by decide +kernel)
theorem lc_X0_addMan : LC mX0_addMan 2 := ⟨mw_415, mw_2, by decide +kernel⟩
theorem mw_628 : (Cond.code ({ cls := "SoupOrHorses$Camp", name := "sizeOf", desc := "(I)I" } : Jvm.MethodName) prog_2_method_21_code (2 : Nat) (Option.some Jvm.ClassFile.FieldType.int)) ∈ WS := tb_3 (List.mem_of_getElem? (i := 148) (by decide +kernel)) (by decide +kernel)
theorem lc_X0_sizeOf : LC mX0_sizeOf 1 := ⟨mw_628, mw_2, by decide +kernel⟩
theorem mw_739 : (Cond.code ({ cls := "SoupOrHorses$Camp", name := "packedOf", desc := "(I)I" } : Jvm.MethodName) prog_2_method_22_code (2 : Nat) (Option.some Jvm.ClassFile.FieldType.int)) ∈ WS := tb_4 (List.mem_of_getElem? (i := 19) (by decide +kernel)) (by decide +kernel)
theorem lc_X0_packedOf : LC mX0_packedOf 1 := ⟨mw_739, mw_2, by decide +kernel⟩
theorem mw_431 : (Cond.code ({ cls := "SoupOrHorses$Camp", name := "useOf", desc := "(I)I" } : Jvm.MethodName) prog_2_method_23_code (2 : Nat) (Option.some Jvm.ClassFile.FieldType.int)) ∈ WS := tb_2 (List.mem_of_getElem? (i := 191) (by decide +kernel)) (by decide +kernel)
theorem lc_X0_useOf : LC mX0_useOf 1 := ⟨mw_431, mw_2, by decide +kernel⟩
theorem mw_439 : (Cond.code ({ cls := "SoupOrHorses$Camp", name := "costOf", desc := "(I)I" } : Jvm.MethodName) prog_2_method_24_code (2 : Nat) (Option.some Jvm.ClassFile.FieldType.int)) ∈ WS := tb_2 (List.mem_of_getElem? (i := 199) (by decide +kernel)) (by decide +kernel)
theorem lc_X0_costOf : LC mX0_costOf 1 := ⟨mw_439, mw_2, by decide +kernel⟩
theorem mw_634 : (Cond.code ({ cls := "SoupOrHorses$Camp", name := "isNoteOf", desc := "(II)Z" } : Jvm.MethodName) prog_2_method_25_code (3 : Nat) (Option.some Jvm.ClassFile.FieldType.boolean)) ∈ WS := tb_3 (List.mem_of_getElem? (i := 154) (by decide +kernel)) (by decide +kernel)
theorem lc_X0_isNoteOf : LC mX0_isNoteOf 2 := ⟨mw_634, mw_2, by decide +kernel⟩
theorem mw_639 : (Cond.code ({ cls := "SoupOrHorses$Camp", name := "noteAt", desc := "(II)I" } : Jvm.MethodName) prog_2_method_26_code (3 : Nat) (Option.some Jvm.ClassFile.FieldType.int)) ∈ WS := tb_3 (List.mem_of_getElem? (i := 159) (by decide +kernel)) (by decide +kernel)
theorem lc_X0_noteAt : LC mX0_noteAt 2 := ⟨mw_639, mw_2, by decide +kernel⟩
theorem mw_326 : (Cond.code ({ cls := "SoupOrHorses$Camp", name := "kindOf", desc := "(I)I" } : Jvm.MethodName) prog_2_method_27_code (2 : Nat) (Option.some Jvm.ClassFile.FieldType.int)) ∈ WS := tb_2 (List.mem_of_getElem? (i := 86) (by decide +kernel)) (by decide +kernel)
theorem lc_X0_kindOf : LC mX0_kindOf 1 := ⟨mw_326, mw_2, by decide +kernel⟩
theorem mw_333 : (Cond.code ({ cls := "SoupOrHorses$Camp", name := "strengthOf", desc := "(I)I" } : Jvm.MethodName) prog_2_method_28_code (2 : Nat) (Option.some Jvm.ClassFile.FieldType.int)) ∈ WS := tb_2 (List.mem_of_getElem? (i := 93) (by decide +kernel)) (by decide +kernel)
theorem lc_X0_strengthOf : LC mX0_strengthOf 1 := ⟨mw_333, mw_2, by decide +kernel⟩
theorem mw_655 : (Cond.code ({ cls := "SoupOrHorses$Camp", name := "earOfMan", desc := "(I)I" } : Jvm.MethodName) prog_2_method_29_code (2 : Nat) (Option.some Jvm.ClassFile.FieldType.int)) ∈ WS := tb_3 (List.mem_of_getElem? (i := 175) (by decide +kernel)) (by decide +kernel)
theorem lc_X0_earOfMan : LC mX0_earOfMan 1 := ⟨mw_655, mw_2, by decide +kernel⟩
theorem mw_659 : (Cond.code ({ cls := "SoupOrHorses$Camp", name := "lookOf", desc := "(I)I" } : Jvm.MethodName) prog_2_method_30_code (2 : Nat) (Option.some Jvm.ClassFile.FieldType.int)) ∈ WS := tb_3 (List.mem_of_getElem? (i := 179) (by decide +kernel)) (by decide +kernel)
theorem lc_X0_lookOf : LC mX0_lookOf 1 := ⟨mw_659, mw_2, by decide +kernel⟩
theorem mw_427 : (Cond.code ({ cls := "SoupOrHorses$Camp", name := "changeUse", desc := "(II)I" } : Jvm.MethodName) prog_2_method_31_code (4 : Nat) (Option.some Jvm.ClassFile.FieldType.int)) ∈ WS := tb_2 (List.mem_of_getElem? (i := 187) (by decide +kernel)) (by decide +kernel)
theorem lc_X0_changeUse : LC mX0_changeUse 2 := ⟨mw_427, mw_2, by decide +kernel⟩
theorem mw_435 : (Cond.code ({ cls := "SoupOrHorses$Camp", name := "changeCost", desc := "(II)I" } : Jvm.MethodName) prog_2_method_32_code (4 : Nat) (Option.some Jvm.ClassFile.FieldType.int)) ∈ WS := tb_2 (List.mem_of_getElem? (i := 195) (by decide +kernel)) (by decide +kernel)
theorem lc_X0_changeCost : LC mX0_changeCost 2 := ⟨mw_435, mw_2, by decide +kernel⟩
theorem mw_1075 : (Cond.code ({ cls := "SoupOrHorses$Camp", name := "countNotes", desc := "()I" } : Jvm.MethodName) prog_2_method_33_code (3 : Nat) (Option.some Jvm.ClassFile.FieldType.int)) ∈ WS := tb_5 (List.mem_of_getElem? (i := 115) (by decide +kernel)) (by decide +kernel)
theorem lc_X0_countNotes : LC mX0_countNotes 0 := ⟨mw_1075, mw_2, by decide +kernel⟩
theorem mw_826 : (Cond.code ({ cls := "SoupOrHorses$Camp", name := "countNote", desc := "(I)I" } : Jvm.MethodName) prog_2_method_34_code (5 : Nat) (Option.some Jvm.ClassFile.FieldType.int)) ∈ WS := tb_4 (List.mem_of_getElem? (i := 106) (by decide +kernel)) (by decide +kernel)
theorem lc_X0_countNote : LC mX0_countNote 1 := ⟨mw_826, mw_2, by decide +kernel⟩
theorem mw_785 : (Cond.code ({ cls := "SoupOrHorses$Camp", name := "sumUses", desc := "()I" } : Jvm.MethodName) prog_2_method_35_code (3 : Nat) (Option.some Jvm.ClassFile.FieldType.int)) ∈ WS := tb_4 (List.mem_of_getElem? (i := 65) (by decide +kernel)) (by decide +kernel)
theorem lc_X0_sumUses : LC mX0_sumUses 0 := ⟨mw_785, mw_2, by decide +kernel⟩
theorem mw_1084 : (Cond.code ({ cls := "SoupOrHorses$Camp", name := "countLookers", desc := "()I" } : Jvm.MethodName) prog_2_method_36_code (3 : Nat) (Option.some Jvm.ClassFile.FieldType.int)) ∈ WS := tb_5 (List.mem_of_getElem? (i := 124) (by decide +kernel)) (by decide +kernel)
theorem lc_X0_countLookers : LC mX0_countLookers 0 := ⟨mw_1084, mw_2, by decide +kernel⟩
theorem mw_990 : (Cond.code ({ cls := "SoupOrHorses$Camp", name := "learnedAt", desc := "(I)I" } : Jvm.MethodName) prog_2_method_37_code (3 : Nat) (Option.some Jvm.ClassFile.FieldType.int)) ∈ WS := tb_5 (List.mem_of_getElem? (i := 30) (by decide +kernel)) (by decide +kernel)
theorem lc_X0_learnedAt : LC mX0_learnedAt 1 := ⟨mw_990, mw_2, by decide +kernel⟩
theorem mw_994 : (Cond.code ({ cls := "SoupOrHorses$Camp", name := "countLearnedAhead", desc := "(I)I" } : Jvm.MethodName) prog_2_method_38_code (6 : Nat) (Option.some Jvm.ClassFile.FieldType.int)) ∈ WS := tb_5 (List.mem_of_getElem? (i := 34) (by decide +kernel)) (by decide +kernel)
theorem lc_X0_countLearnedAhead : LC mX0_countLearnedAhead 1 := ⟨mw_994, mw_2, by decide +kernel⟩
theorem mw_1033 : (Cond.code ({ cls := "SoupOrHorses$Camp", name := "drawBelow", desc := "(I)I" } : Jvm.MethodName) prog_2_method_39_code (2 : Nat) (Option.some Jvm.ClassFile.FieldType.int)) ∈ WS := tb_5 (List.mem_of_getElem? (i := 73) (by decide +kernel)) (by decide +kernel)
theorem lc_X0_drawBelow : LC mX0_drawBelow 1 := ⟨mw_1033, mw_2, by decide +kernel⟩
theorem mw_158 : (Cond.code ({ cls := "SoupOrHorses$Crowd", name := "<init>", desc := "()V" } : Jvm.MethodName) prog_3_method_1_code (1 : Nat) (Option.none : Option Jvm.ClassFile.FieldType)) ∈ WS := tb_1 (List.mem_of_getElem? (i := 158) (by decide +kernel)) (by decide +kernel)
theorem lc_X1_init : LC mX1_init 0 := ⟨mw_158, mw_6, by decide +kernel⟩
theorem mw_911 : (Cond.code ({ cls := "SoupOrHorses$Crowd", name := "hearAndDo", desc := "(LSoupOrHorses$Camp;LSoupOrHorses$Hearing;I)V" } : Jvm.MethodName) prog_3_method_2_code (4 : Nat) (Option.none : Option Jvm.ClassFile.FieldType)) ∈ WS := tb_4 (List.mem_of_getElem? (i := 191) (by decide +kernel)) (by decide +kernel)
theorem lc_X1_hearAndDo : LC mX1_hearAndDo 3 := ⟨mw_911, mw_6, by decide +kernel⟩
theorem mw_915 : (Cond.code ({ cls := "SoupOrHorses$Crowd", name := "hearAll", desc := "(LSoupOrHorses$Camp;LSoupOrHorses$Hearing;I)V" } : Jvm.MethodName) prog_3_method_3_code (6 : Nat) (Option.none : Option Jvm.ClassFile.FieldType)) ∈ WS := tb_4 (List.mem_of_getElem? (i := 195) (by decide +kernel)) (by decide +kernel)
theorem lc_X1_hearAll : LC mX1_hearAll 3 := ⟨mw_915, mw_6, by decide +kernel⟩
theorem mw_927 : (Cond.code ({ cls := "SoupOrHorses$Crowd", name := "doAll", desc := "(LSoupOrHorses$Camp;I)V" } : Jvm.MethodName) prog_3_method_4_code (5 : Nat) (Option.none : Option Jvm.ClassFile.FieldType)) ∈ WS := tb_4 (List.mem_of_getElem? (i := 207) (by decide +kernel)) (by decide +kernel)
theorem lc_X1_doAll : LC mX1_doAll 2 := ⟨mw_927, mw_6, by decide +kernel⟩
theorem mw_939 : (Cond.code ({ cls := "SoupOrHorses$Crowd", name := "countDeed", desc := "(I)V" } : Jvm.MethodName) prog_3_method_5_code (2 : Nat) (Option.none : Option Jvm.ClassFile.FieldType)) ∈ WS := tb_4 (List.mem_of_getElem? (i := 219) (by decide +kernel)) (by decide +kernel)
theorem lc_X1_countDeed : LC mX1_countDeed 1 := ⟨mw_939, mw_6, by decide +kernel⟩
theorem mw_935 : (Cond.code ({ cls := "SoupOrHorses$Crowd", name := "mostDone", desc := "()I" } : Jvm.MethodName) prog_3_method_6_code (4 : Nat) (Option.some Jvm.ClassFile.FieldType.int)) ∈ WS := tb_4 (List.mem_of_getElem? (i := 215) (by decide +kernel)) (by decide +kernel)
theorem lc_X1_mostDone : LC mX1_mostDone 0 := ⟨mw_935, mw_6, by decide +kernel⟩
theorem mw_943 : (Cond.code ({ cls := "SoupOrHorses$Crowd", name := "deedOf", desc := "(I)I" } : Jvm.MethodName) prog_3_method_7_code (2 : Nat) (Option.some Jvm.ClassFile.FieldType.int)) ∈ WS := tb_4 (List.mem_of_getElem? (i := 223) (by decide +kernel)) (by decide +kernel)
theorem lc_X1_deedOf : LC mX1_deedOf 1 := ⟨mw_943, mw_6, by decide +kernel⟩
theorem mw_951 : (Cond.code ({ cls := "SoupOrHorses$Crowd", name := "countDoing", desc := "(I)I" } : Jvm.MethodName) prog_3_method_8_code (4 : Nat) (Option.some Jvm.ClassFile.FieldType.int)) ∈ WS := tb_4 (List.mem_of_getElem? (i := 231) (by decide +kernel)) (by decide +kernel)
theorem lc_X1_countDoing : LC mX1_countDoing 1 := ⟨mw_951, mw_6, by decide +kernel⟩
theorem mw_960 : (Cond.code ({ cls := "SoupOrHorses$Crowd", name := "firstNotDoing", desc := "(I)I" } : Jvm.MethodName) prog_3_method_9_code (3 : Nat) (Option.some Jvm.ClassFile.FieldType.int)) ∈ WS := tb_5 (List.mem_of_getElem? (i := 0) (by decide +kernel)) (by decide +kernel)
theorem lc_X1_firstNotDoing : LC mX1_firstNotDoing 1 := ⟨mw_960, mw_6, by decide +kernel⟩
theorem mw_968 : (Cond.code ({ cls := "SoupOrHorses$Crowd", name := "notByGuess", desc := "()I" } : Jvm.MethodName) prog_3_method_10_code (3 : Nat) (Option.some Jvm.ClassFile.FieldType.int)) ∈ WS := tb_5 (List.mem_of_getElem? (i := 8) (by decide +kernel)) (by decide +kernel)
theorem lc_X1_notByGuess : LC mX1_notByGuess 0 := ⟨mw_968, mw_6, by decide +kernel⟩
theorem mw_976 : (Cond.code ({ cls := "SoupOrHorses$Crowd", name := "leastSure", desc := "(LSoupOrHorses$Camp;LSoupOrHorses$Hearing;I)I" } : Jvm.MethodName) prog_3_method_11_code (5 : Nat) (Option.some Jvm.ClassFile.FieldType.int)) ∈ WS := tb_5 (List.mem_of_getElem? (i := 16) (by decide +kernel)) (by decide +kernel)
theorem lc_X1_leastSure : LC mX1_leastSure 3 := ⟨mw_976, mw_6, by decide +kernel⟩
theorem mw_139 : (Cond.code ({ cls := "SoupOrHorses$Hearing", name := "<init>", desc := "()V" } : Jvm.MethodName) prog_4_method_1_code (1 : Nat) (Option.none : Option Jvm.ClassFile.FieldType)) ∈ WS := tb_1 (List.mem_of_getElem? (i := 139) (by decide +kernel)) (by decide +kernel)
theorem lc_X2_init : LC mX2_init 0 := ⟨mw_139, mw_5, by decide +kernel⟩
theorem mw_708 : (Cond.code ({ cls := "SoupOrHorses$Hearing", name := "noteAt", desc := "(I)I" } : Jvm.MethodName) prog_4_method_2_code (2 : Nat) (Option.some Jvm.ClassFile.FieldType.int)) ∈ WS := tb_3 (List.mem_of_getElem? (i := 228) (by decide +kernel)) (by decide +kernel)
theorem lc_X2_noteAt : LC mX2_noteAt 1 := ⟨mw_708, mw_5, by decide +kernel⟩
theorem mw_694 : (Cond.code ({ cls := "SoupOrHorses$Hearing", name := "cutTo", desc := "(IZ)V" } : Jvm.MethodName) prog_4_method_3_code (3 : Nat) (Option.none : Option Jvm.ClassFile.FieldType)) ∈ WS := tb_3 (List.mem_of_getElem? (i := 214) (by decide +kernel)) (by decide +kernel)
theorem lc_X2_cutTo : LC mX2_cutTo 2 := ⟨mw_694, mw_5, by decide +kernel⟩
theorem mw_701 : (Cond.code ({ cls := "SoupOrHorses$Hearing", name := "putNote", desc := "(II)V" } : Jvm.MethodName) prog_4_method_4_code (3 : Nat) (Option.none : Option Jvm.ClassFile.FieldType)) ∈ WS := tb_3 (List.mem_of_getElem? (i := 221) (by decide +kernel)) (by decide +kernel)
theorem lc_X2_putNote : LC mX2_putNote 2 := ⟨mw_701, mw_5, by decide +kernel⟩
theorem mw_690 : (Cond.code ({ cls := "SoupOrHorses$Hearing", name := "takeShelf", desc := "(LSoupOrHorses$Shelf;IZ)V" } : Jvm.MethodName) prog_4_method_5_code (5 : Nat) (Option.none : Option Jvm.ClassFile.FieldType)) ∈ WS := tb_3 (List.mem_of_getElem? (i := 210) (by decide +kernel)) (by decide +kernel)
theorem lc_X2_takeShelf : LC mX2_takeShelf 3 := ⟨mw_690, mw_5, by decide +kernel⟩
theorem mw_760 : (Cond.code ({ cls := "SoupOrHorses$Hearing", name := "takeCall", desc := "(LSoupOrHorses$Camp;II)V" } : Jvm.MethodName) prog_4_method_6_code (5 : Nat) (Option.none : Option Jvm.ClassFile.FieldType)) ∈ WS := tb_4 (List.mem_of_getElem? (i := 40) (by decide +kernel)) (by decide +kernel)
theorem lc_X2_takeCall : LC mX2_takeCall 3 := ⟨mw_760, mw_5, by decide +kernel⟩
theorem mw_1029 : (Cond.code ({ cls := "SoupOrHorses$Hearing", name := "takeSounded", desc := "(LSoupOrHorses$Camp;I)I" } : Jvm.MethodName) prog_4_method_7_code (6 : Nat) (Option.some Jvm.ClassFile.FieldType.int)) ∈ WS := tb_5 (List.mem_of_getElem? (i := 69) (by decide +kernel)) (by decide +kernel)
theorem lc_X2_takeSounded : LC mX2_takeSounded 2 := ⟨mw_1029, mw_5, by decide +kernel⟩
theorem mw_318 : (Cond.code ({ cls := "SoupOrHorses$Kind", name := "isKind", desc := "(I)Z" } : Jvm.MethodName) prog_5_method_2_code (1 : Nat) (Option.some Jvm.ClassFile.FieldType.boolean)) ∈ WS := tb_2 (List.mem_of_getElem? (i := 78) (by decide +kernel)) (by decide +kernel)
theorem mw_12 : (Cond.initialized "SoupOrHorses$Kind") ∈ WS := tb_1 (List.mem_of_getElem? (i := 12) (by decide +kernel)) (by decide +kernel)
theorem lc_X3_isKind : LC mX3_isKind 1 := ⟨mw_318, mw_12, by decide +kernel⟩
theorem mw_392 : (Cond.code ({ cls := "SoupOrHorses$Kind", name := "isStrength", desc := "(I)Z" } : Jvm.MethodName) prog_5_method_3_code (1 : Nat) (Option.some Jvm.ClassFile.FieldType.boolean)) ∈ WS := tb_2 (List.mem_of_getElem? (i := 152) (by decide +kernel)) (by decide +kernel)
theorem lc_X3_isStrength : LC mX3_isStrength 1 := ⟨mw_392, mw_12, by decide +kernel⟩
theorem mw_329 : (Cond.code ({ cls := "SoupOrHorses$Kind", name := "isUnder", desc := "(II)Z" } : Jvm.MethodName) prog_5_method_4_code (2 : Nat) (Option.some Jvm.ClassFile.FieldType.boolean)) ∈ WS := tb_2 (List.mem_of_getElem? (i := 89) (by decide +kernel)) (by decide +kernel)
theorem lc_X3_isUnder : LC mX3_isUnder 2 := ⟨mw_329, mw_12, by decide +kernel⟩
theorem mw_342 : (Cond.code ({ cls := "SoupOrHorses$Kind", name := "isTornAway", desc := "(IIII)Z" } : Jvm.MethodName) prog_5_method_5_code (4 : Nat) (Option.some Jvm.ClassFile.FieldType.boolean)) ∈ WS := tb_2 (List.mem_of_getElem? (i := 102) (by decide +kernel)) (by decide +kernel)
theorem lc_X3_isTornAway : LC mX3_isTornAway 4 := ⟨mw_342, mw_12, by decide +kernel⟩
theorem mw_351 : (Cond.code ({ cls := "SoupOrHorses$Kind", name := "isEchoed", desc := "(III)Z" } : Jvm.MethodName) prog_5_method_6_code (3 : Nat) (Option.some Jvm.ClassFile.FieldType.boolean)) ∈ WS := tb_2 (List.mem_of_getElem? (i := 111) (by decide +kernel)) (by decide +kernel)
theorem lc_X3_isEchoed : LC mX3_isEchoed 3 := ⟨mw_351, mw_12, by decide +kernel⟩
theorem mw_345 : (Cond.code ({ cls := "SoupOrHorses$Kind", name := "changedNote", desc := "(II)I" } : Jvm.MethodName) prog_5_method_7_code (2 : Nat) (Option.some Jvm.ClassFile.FieldType.int)) ∈ WS := tb_2 (List.mem_of_getElem? (i := 105) (by decide +kernel)) (by decide +kernel)
theorem lc_X3_changedNote : LC mX3_changedNote 2 := ⟨mw_345, mw_12, by decide +kernel⟩
theorem mw_336 : (Cond.code ({ cls := "SoupOrHorses$Kind", name := "tellOf", desc := "(III)I" } : Jvm.MethodName) prog_5_method_8_code (3 : Nat) (Option.some Jvm.ClassFile.FieldType.int)) ∈ WS := tb_2 (List.mem_of_getElem? (i := 96) (by decide +kernel)) (by decide +kernel)
theorem lc_X3_tellOf : LC mX3_tellOf 3 := ⟨mw_336, mw_12, by decide +kernel⟩
theorem mw_339 : (Cond.code ({ cls := "SoupOrHorses$Kind", name := "countTornAway", desc := "(II)I" } : Jvm.MethodName) prog_5_method_9_code (4 : Nat) (Option.some Jvm.ClassFile.FieldType.int)) ∈ WS := tb_2 (List.mem_of_getElem? (i := 99) (by decide +kernel)) (by decide +kernel)
theorem lc_X3_countTornAway : LC mX3_countTornAway 2 := ⟨mw_339, mw_12, by decide +kernel⟩
theorem mw_348 : (Cond.code ({ cls := "SoupOrHorses$Kind", name := "countEchoed", desc := "(II)I" } : Jvm.MethodName) prog_5_method_10_code (4 : Nat) (Option.some Jvm.ClassFile.FieldType.int)) ∈ WS := tb_2 (List.mem_of_getElem? (i := 108) (by decide +kernel)) (by decide +kernel)
theorem lc_X3_countEchoed : LC mX3_countEchoed 2 := ⟨mw_348, mw_12, by decide +kernel⟩
theorem mw_180 : (Cond.code ({ cls := "SoupOrHorses$Likeness", name := "<init>", desc := "()V" } : Jvm.MethodName) prog_6_method_1_code (1 : Nat) (Option.none : Option Jvm.ClassFile.FieldType)) ∈ WS := tb_1 (List.mem_of_getElem? (i := 180) (by decide +kernel)) (by decide +kernel)
theorem lc_X4_init : LC mX4_init 0 := ⟨mw_180, mw_7, by decide +kernel⟩
theorem mw_742 : (Cond.code ({ cls := "SoupOrHorses$Likeness", name := "distance", desc := "(II)I" } : Jvm.MethodName) prog_6_method_2_code (3 : Nat) (Option.some Jvm.ClassFile.FieldType.int)) ∈ WS := tb_4 (List.mem_of_getElem? (i := 22) (by decide +kernel)) (by decide +kernel)
theorem lc_X4_distance : LC mX4_distance 2 := ⟨mw_742, mw_7, by decide +kernel⟩
theorem mw_814 : (Cond.code ({ cls := "SoupOrHorses$Likeness", name := "sameStart", desc := "(LSoupOrHorses$Camp;II)I" } : Jvm.MethodName) prog_6_method_3_code (5 : Nat) (Option.some Jvm.ClassFile.FieldType.int)) ∈ WS := tb_4 (List.mem_of_getElem? (i := 94) (by decide +kernel)) (by decide +kernel)
theorem lc_X4_sameStart : LC mX4_sameStart 3 := ⟨mw_814, mw_7, by decide +kernel⟩
theorem mw_834 : (Cond.code ({ cls := "SoupOrHorses$Likeness", name := "countTwins", desc := "(LSoupOrHorses$Camp;)I" } : Jvm.MethodName) prog_6_method_4_code (3 : Nat) (Option.some Jvm.ClassFile.FieldType.int)) ∈ WS := tb_4 (List.mem_of_getElem? (i := 114) (by decide +kernel)) (by decide +kernel)
theorem lc_X4_countTwins : LC mX4_countTwins 1 := ⟨mw_834, mw_7, by decide +kernel⟩
theorem mw_863 : (Cond.code ({ cls := "SoupOrHorses$Likeness", name := "nearestPair", desc := "(LSoupOrHorses$Camp;)I" } : Jvm.MethodName) prog_6_method_5_code (6 : Nat) (Option.some Jvm.ClassFile.FieldType.int)) ∈ WS := tb_4 (List.mem_of_getElem? (i := 143) (by decide +kernel)) (by decide +kernel)
theorem lc_X4_nearestPair : LC mX4_nearestPair 1 := ⟨mw_863, mw_7, by decide +kernel⟩
theorem mw_866 : (Cond.code ({ cls := "SoupOrHorses$Likeness", name := "pairDistance", desc := "(LSoupOrHorses$Camp;I)I" } : Jvm.MethodName) prog_6_method_6_code (2 : Nat) (Option.some Jvm.ClassFile.FieldType.int)) ∈ WS := tb_4 (List.mem_of_getElem? (i := 146) (by decide +kernel)) (by decide +kernel)
theorem lc_X4_pairDistance : LC mX4_pairDistance 2 := ⟨mw_866, mw_7, by decide +kernel⟩
theorem mw_838 : (Cond.code ({ cls := "SoupOrHorses$Likeness", name := "isClear", desc := "(LSoupOrHorses$Camp;III)Z" } : Jvm.MethodName) prog_6_method_7_code (5 : Nat) (Option.some Jvm.ClassFile.FieldType.boolean)) ∈ WS := tb_4 (List.mem_of_getElem? (i := 118) (by decide +kernel)) (by decide +kernel)
theorem lc_X4_isClear : LC mX4_isClear 4 := ⟨mw_838, mw_7, by decide +kernel⟩
theorem mw_852 : (Cond.code ({ cls := "SoupOrHorses$Likeness", name := "countRows", desc := "(I)I" } : Jvm.MethodName) prog_6_method_8_code (3 : Nat) (Option.some Jvm.ClassFile.FieldType.int)) ∈ WS := tb_4 (List.mem_of_getElem? (i := 132) (by decide +kernel)) (by decide +kernel)
theorem lc_X4_countRows : LC mX4_countRows 1 := ⟨mw_852, mw_7, by decide +kernel⟩
theorem mw_855 : (Cond.code ({ cls := "SoupOrHorses$Likeness", name := "packedRow", desc := "(II)I" } : Jvm.MethodName) prog_6_method_9_code (5 : Nat) (Option.some Jvm.ClassFile.FieldType.int)) ∈ WS := tb_4 (List.mem_of_getElem? (i := 135) (by decide +kernel)) (by decide +kernel)
theorem lc_X4_packedRow : LC mX4_packedRow 2 := ⟨mw_855, mw_7, by decide +kernel⟩
theorem mw_886 : (Cond.code ({ cls := "SoupOrHorses$Likeness", name := "firstFresh", desc := "(LSoupOrHorses$Camp;II)I" } : Jvm.MethodName) prog_6_method_10_code (5 : Nat) (Option.some Jvm.ClassFile.FieldType.int)) ∈ WS := tb_4 (List.mem_of_getElem? (i := 166) (by decide +kernel)) (by decide +kernel)
theorem lc_X4_firstFresh : LC mX4_firstFresh 3 := ⟨mw_886, mw_7, by decide +kernel⟩
theorem mw_849 : (Cond.code ({ cls := "SoupOrHorses$Likeness", name := "fewestChanges", desc := "(LSoupOrHorses$Camp;II)I" } : Jvm.MethodName) prog_6_method_11_code (9 : Nat) (Option.some Jvm.ClassFile.FieldType.int)) ∈ WS := tb_4 (List.mem_of_getElem? (i := 129) (by decide +kernel)) (by decide +kernel)
theorem lc_X4_fewestChanges : LC mX4_fewestChanges 3 := ⟨mw_849, mw_7, by decide +kernel⟩
theorem mw_894 : (Cond.code ({ cls := "SoupOrHorses$Likeness", name := "bestSet", desc := "(LSoupOrHorses$Camp;I)I" } : Jvm.MethodName) prog_6_method_12_code (7 : Nat) (Option.some Jvm.ClassFile.FieldType.int)) ∈ WS := tb_4 (List.mem_of_getElem? (i := 174) (by decide +kernel)) (by decide +kernel)
theorem lc_X4_bestSet : LC mX4_bestSet 2 := ⟨mw_894, mw_7, by decide +kernel⟩
theorem mw_898 : (Cond.code ({ cls := "SoupOrHorses$Likeness", name := "findTooNear", desc := "(LSoupOrHorses$Camp;I)V" } : Jvm.MethodName) prog_6_method_13_code (6 : Nat) (Option.none : Option Jvm.ClassFile.FieldType)) ∈ WS := tb_4 (List.mem_of_getElem? (i := 178) (by decide +kernel)) (by decide +kernel)
theorem lc_X4_findTooNear : LC mX4_findTooNear 2 := ⟨mw_898, mw_7, by decide +kernel⟩
theorem mw_902 : (Cond.code ({ cls := "SoupOrHorses$Likeness", name := "usesIfKept", desc := "(LSoupOrHorses$Camp;I)I" } : Jvm.MethodName) prog_6_method_14_code (5 : Nat) (Option.some Jvm.ClassFile.FieldType.int)) ∈ WS := tb_4 (List.mem_of_getElem? (i := 182) (by decide +kernel)) (by decide +kernel)
theorem lc_X4_usesIfKept : LC mX4_usesIfKept 2 := ⟨mw_902, mw_7, by decide +kernel⟩
theorem mw_481 : (Cond.code ({ cls := "SoupOrHorses$Reader", name := "readCamp", desc := "(LSoupOrHorses$Tape;LSoupOrHorses$Camp;)I" } : Jvm.MethodName) prog_7_method_2_code (3 : Nat) (Option.some Jvm.ClassFile.FieldType.int)) ∈ WS := tb_3 (List.mem_of_getElem? (i := 1) (by decide +kernel)) (by decide +kernel)
theorem mw_13 : (Cond.initialized "SoupOrHorses$Reader") ∈ WS := tb_1 (List.mem_of_getElem? (i := 13) (by decide +kernel)) (by decide +kernel)
theorem lc_X5_readCamp : LC mX5_readCamp 2 := ⟨mw_481, mw_13, by decide +kernel⟩
theorem mw_502 : (Cond.code ({ cls := "SoupOrHorses$Reader", name := "isStatementRead", desc := "(LSoupOrHorses$Tape;LSoupOrHorses$Camp;)Z" } : Jvm.MethodName) prog_7_method_3_code (2 : Nat) (Option.some Jvm.ClassFile.FieldType.boolean)) ∈ WS := tb_3 (List.mem_of_getElem? (i := 22) (by decide +kernel)) (by decide +kernel)
theorem lc_X5_isStatementRead : LC mX5_isStatementRead 2 := ⟨mw_502, mw_13, by decide +kernel⟩
theorem mw_559 : (Cond.code ({ cls := "SoupOrHorses$Reader", name := "isCallRead", desc := "(LSoupOrHorses$Tape;LSoupOrHorses$Camp;)Z" } : Jvm.MethodName) prog_7_method_4_code (6 : Nat) (Option.some Jvm.ClassFile.FieldType.boolean)) ∈ WS := tb_3 (List.mem_of_getElem? (i := 79) (by decide +kernel)) (by decide +kernel)
theorem lc_X5_isCallRead : LC mX5_isCallRead 2 := ⟨mw_559, mw_13, by decide +kernel⟩
theorem mw_585 : (Cond.code ({ cls := "SoupOrHorses$Reader", name := "isEarRead", desc := "(LSoupOrHorses$Tape;LSoupOrHorses$Camp;)Z" } : Jvm.MethodName) prog_7_method_5_code (4 : Nat) (Option.some Jvm.ClassFile.FieldType.boolean)) ∈ WS := tb_3 (List.mem_of_getElem? (i := 105) (by decide +kernel)) (by decide +kernel)
theorem lc_X5_isEarRead : LC mX5_isEarRead 2 := ⟨mw_585, mw_13, by decide +kernel⟩
theorem mw_593 : (Cond.code ({ cls := "SoupOrHorses$Reader", name := "isManRead", desc := "(LSoupOrHorses$Tape;LSoupOrHorses$Camp;)Z" } : Jvm.MethodName) prog_7_method_6_code (4 : Nat) (Option.some Jvm.ClassFile.FieldType.boolean)) ∈ WS := tb_3 (List.mem_of_getElem? (i := 113) (by decide +kernel)) (by decide +kernel)
theorem lc_X5_isManRead : LC mX5_isManRead 2 := ⟨mw_593, mw_13, by decide +kernel⟩
theorem mw_600 : (Cond.code ({ cls := "SoupOrHorses$Reader", name := "isSureRead", desc := "(LSoupOrHorses$Tape;LSoupOrHorses$Camp;)Z" } : Jvm.MethodName) prog_7_method_7_code (3 : Nat) (Option.some Jvm.ClassFile.FieldType.boolean)) ∈ WS := tb_3 (List.mem_of_getElem? (i := 120) (by decide +kernel)) (by decide +kernel)
theorem lc_X5_isSureRead : LC mX5_isSureRead 2 := ⟨mw_600, mw_13, by decide +kernel⟩
theorem mw_605 : (Cond.code ({ cls := "SoupOrHorses$Reader", name := "isLostRead", desc := "(LSoupOrHorses$Tape;LSoupOrHorses$Camp;)Z" } : Jvm.MethodName) prog_7_method_8_code (3 : Nat) (Option.some Jvm.ClassFile.FieldType.boolean)) ∈ WS := tb_3 (List.mem_of_getElem? (i := 125) (by decide +kernel)) (by decide +kernel)
theorem lc_X5_isLostRead : LC mX5_isLostRead 2 := ⟨mw_605, mw_13, by decide +kernel⟩
theorem mw_610 : (Cond.code ({ cls := "SoupOrHorses$Reader", name := "isUseRead", desc := "(LSoupOrHorses$Tape;LSoupOrHorses$Camp;)Z" } : Jvm.MethodName) prog_7_method_9_code (4 : Nat) (Option.some Jvm.ClassFile.FieldType.boolean)) ∈ WS := tb_3 (List.mem_of_getElem? (i := 130) (by decide +kernel)) (by decide +kernel)
theorem lc_X5_isUseRead : LC mX5_isUseRead 2 := ⟨mw_610, mw_13, by decide +kernel⟩
theorem mw_666 : (Cond.code ({ cls := "SoupOrHorses$Sense", name := "noteByEar", desc := "(LSoupOrHorses$Camp;III)I" } : Jvm.MethodName) prog_8_method_2_code (6 : Nat) (Option.some Jvm.ClassFile.FieldType.int)) ∈ WS := tb_3 (List.mem_of_getElem? (i := 186) (by decide +kernel)) (by decide +kernel)
theorem mw_18 : (Cond.initialized "SoupOrHorses$Sense") ∈ WS := tb_1 (List.mem_of_getElem? (i := 18) (by decide +kernel)) (by decide +kernel)
theorem lc_X6_noteByEar : LC mX6_noteByEar 4 := ⟨mw_666, mw_18, by decide +kernel⟩
theorem mw_704 : (Cond.code ({ cls := "SoupOrHorses$Sense", name := "isFit", desc := "(LSoupOrHorses$Camp;LSoupOrHorses$Hearing;II)Z" } : Jvm.MethodName) prog_8_method_3_code (8 : Nat) (Option.some Jvm.ClassFile.FieldType.boolean)) ∈ WS := tb_3 (List.mem_of_getElem? (i := 224) (by decide +kernel)) (by decide +kernel)
theorem lc_X6_isFit : LC mX6_isFit 4 := ⟨mw_704, mw_18, by decide +kernel⟩
theorem mw_721 : (Cond.code ({ cls := "SoupOrHorses$Sense", name := "usesThatFit", desc := "(LSoupOrHorses$Camp;LSoupOrHorses$Hearing;I)I" } : Jvm.MethodName) prog_8_method_4_code (5 : Nat) (Option.some Jvm.ClassFile.FieldType.int)) ∈ WS := tb_4 (List.mem_of_getElem? (i := 1) (by decide +kernel)) (by decide +kernel)
theorem lc_X6_usesThatFit : LC mX6_usesThatFit 3 := ⟨mw_721, mw_18, by decide +kernel⟩
theorem mw_716 : (Cond.code ({ cls := "SoupOrHorses$Sense", name := "likelyOf", desc := "(LSoupOrHorses$Camp;LSoupOrHorses$Hearing;II)I" } : Jvm.MethodName) prog_8_method_5_code (4 : Nat) (Option.some Jvm.ClassFile.FieldType.int)) ∈ WS := tb_3 (List.mem_of_getElem? (i := 236) (by decide +kernel)) (by decide +kernel)
theorem lc_X6_likelyOf : LC mX6_likelyOf 4 := ⟨mw_716, mw_18, by decide +kernel⟩
theorem mw_724 : (Cond.code ({ cls := "SoupOrHorses$Sense", name := "perThousand", desc := "(II)I" } : Jvm.MethodName) prog_8_method_6_code (2 : Nat) (Option.some Jvm.ClassFile.FieldType.int)) ∈ WS := tb_4 (List.mem_of_getElem? (i := 4) (by decide +kernel)) (by decide +kernel)
theorem lc_X6_perThousand : LC mX6_perThousand 2 := ⟨mw_724, mw_18, by decide +kernel⟩
theorem mw_731 : (Cond.code ({ cls := "SoupOrHorses$Sense", name := "guessOf", desc := "(LSoupOrHorses$Camp;LSoupOrHorses$Hearing;I)I" } : Jvm.MethodName) prog_8_method_7_code (5 : Nat) (Option.some Jvm.ClassFile.FieldType.int)) ∈ WS := tb_4 (List.mem_of_getElem? (i := 11) (by decide +kernel)) (by decide +kernel)
theorem lc_X6_guessOf : LC mX6_guessOf 3 := ⟨mw_731, mw_18, by decide +kernel⟩
theorem mw_766 : (Cond.code ({ cls := "SoupOrHorses$Sense", name := "fitsAnother", desc := "(LSoupOrHorses$Camp;LSoupOrHorses$Hearing;II)Z" } : Jvm.MethodName) prog_8_method_8_code (5 : Nat) (Option.some Jvm.ClassFile.FieldType.boolean)) ∈ WS := tb_4 (List.mem_of_getElem? (i := 46) (by decide +kernel)) (by decide +kernel)
theorem lc_X6_fitsAnother : LC mX6_fitsAnother 4 := ⟨mw_766, mw_18, by decide +kernel⟩
theorem mw_756 : (Cond.code ({ cls := "SoupOrHorses$Sense", name := "countedBehind", desc := "(LSoupOrHorses$Camp;LSoupOrHorses$Hearing;II)I" } : Jvm.MethodName) prog_8_method_9_code (6 : Nat) (Option.some Jvm.ClassFile.FieldType.int)) ∈ WS := tb_4 (List.mem_of_getElem? (i := 36) (by decide +kernel)) (by decide +kernel)
theorem lc_X6_countedBehind : LC mX6_countedBehind 4 := ⟨mw_756, mw_18, by decide +kernel⟩
theorem mw_773 : (Cond.code ({ cls := "SoupOrHorses$Sense", name := "bestEar", desc := "(LSoupOrHorses$Camp;LSoupOrHorses$Hearing;I)I" } : Jvm.MethodName) prog_8_method_10_code (7 : Nat) (Option.some Jvm.ClassFile.FieldType.int)) ∈ WS := tb_4 (List.mem_of_getElem? (i := 53) (by decide +kernel)) (by decide +kernel)
theorem lc_X6_bestEar : LC mX6_bestEar 3 := ⟨mw_773, mw_18, by decide +kernel⟩
theorem mw_781 : (Cond.code ({ cls := "SoupOrHorses$Sense", name := "meanBehind", desc := "(LSoupOrHorses$Camp;LSoupOrHorses$Hearing;I)I" } : Jvm.MethodName) prog_8_method_11_code (5 : Nat) (Option.some Jvm.ClassFile.FieldType.int)) ∈ WS := tb_4 (List.mem_of_getElem? (i := 61) (by decide +kernel)) (by decide +kernel)
theorem lc_X6_meanBehind : LC mX6_meanBehind 3 := ⟨mw_781, mw_18, by decide +kernel⟩
theorem mw_795 : (Cond.code ({ cls := "SoupOrHorses$Sense", name := "riskOf", desc := "(LSoupOrHorses$Camp;LSoupOrHorses$Hearing;II)I" } : Jvm.MethodName) prog_8_method_12_code (6 : Nat) (Option.some Jvm.ClassFile.FieldType.int)) ∈ WS := tb_4 (List.mem_of_getElem? (i := 75) (by decide +kernel)) (by decide +kernel)
theorem lc_X6_riskOf : LC mX6_riskOf 4 := ⟨mw_795, mw_18, by decide +kernel⟩
theorem mw_792 : (Cond.code ({ cls := "SoupOrHorses$Sense", name := "riskiest", desc := "(LSoupOrHorses$Camp;LSoupOrHorses$Hearing;I)I" } : Jvm.MethodName) prog_8_method_13_code (7 : Nat) (Option.some Jvm.ClassFile.FieldType.int)) ∈ WS := tb_4 (List.mem_of_getElem? (i := 72) (by decide +kernel)) (by decide +kernel)
theorem lc_X6_riskiest : LC mX6_riskiest 3 := ⟨mw_792, mw_18, by decide +kernel⟩
theorem mw_803 : (Cond.code ({ cls := "SoupOrHorses$Sense", name := "nextBits", desc := "(LSoupOrHorses$Camp;LSoupOrHorses$Hearing;I)I" } : Jvm.MethodName) prog_8_method_14_code (5 : Nat) (Option.some Jvm.ClassFile.FieldType.int)) ∈ WS := tb_4 (List.mem_of_getElem? (i := 83) (by decide +kernel)) (by decide +kernel)
theorem lc_X6_nextBits : LC mX6_nextBits 3 := ⟨mw_803, mw_18, by decide +kernel⟩
theorem mw_806 : (Cond.code ({ cls := "SoupOrHorses$Sense", name := "nextBit", desc := "(LSoupOrHorses$Camp;III)I" } : Jvm.MethodName) prog_8_method_15_code (5 : Nat) (Option.some Jvm.ClassFile.FieldType.int)) ∈ WS := tb_4 (List.mem_of_getElem? (i := 86) (by decide +kernel)) (by decide +kernel)
theorem lc_X6_nextBit : LC mX6_nextBit 4 := ⟨mw_806, mw_18, by decide +kernel⟩
theorem mw_876 : (Cond.code ({ cls := "SoupOrHorses$Sense", name := "areMixed", desc := "(LSoupOrHorses$Camp;LSoupOrHorses$Hearing;III)Z" } : Jvm.MethodName) prog_8_method_16_code (5 : Nat) (Option.some Jvm.ClassFile.FieldType.boolean)) ∈ WS := tb_4 (List.mem_of_getElem? (i := 156) (by decide +kernel)) (by decide +kernel)
theorem lc_X6_areMixed : LC mX6_areMixed 5 := ⟨mw_876, mw_18, by decide +kernel⟩
theorem mw_873 : (Cond.code ({ cls := "SoupOrHorses$Sense", name := "countMixed", desc := "(LSoupOrHorses$Camp;LSoupOrHorses$Hearing;I)I" } : Jvm.MethodName) prog_8_method_17_code (6 : Nat) (Option.some Jvm.ClassFile.FieldType.int)) ∈ WS := tb_4 (List.mem_of_getElem? (i := 153) (by decide +kernel)) (by decide +kernel)
theorem lc_X6_countMixed : LC mX6_countMixed 3 := ⟨mw_873, mw_18, by decide +kernel⟩
theorem mw_879 : (Cond.code ({ cls := "SoupOrHorses$Sense", name := "firstMixed", desc := "(LSoupOrHorses$Camp;LSoupOrHorses$Hearing;I)I" } : Jvm.MethodName) prog_8_method_18_code (5 : Nat) (Option.some Jvm.ClassFile.FieldType.int)) ∈ WS := tb_4 (List.mem_of_getElem? (i := 159) (by decide +kernel)) (by decide +kernel)
theorem lc_X6_firstMixed : LC mX6_firstMixed 3 := ⟨mw_879, mw_18, by decide +kernel⟩
theorem mw_1004 : (Cond.code ({ cls := "SoupOrHorses$Sense", name := "differences", desc := "(LSoupOrHorses$Camp;LSoupOrHorses$Hearing;I)I" } : Jvm.MethodName) prog_8_method_19_code (7 : Nat) (Option.some Jvm.ClassFile.FieldType.int)) ∈ WS := tb_5 (List.mem_of_getElem? (i := 44) (by decide +kernel)) (by decide +kernel)
theorem lc_X6_differences : LC mX6_differences 3 := ⟨mw_1004, mw_18, by decide +kernel⟩
theorem mw_1001 : (Cond.code ({ cls := "SoupOrHorses$Sense", name := "nearestCall", desc := "(LSoupOrHorses$Camp;LSoupOrHorses$Hearing;)I" } : Jvm.MethodName) prog_8_method_20_code (6 : Nat) (Option.some Jvm.ClassFile.FieldType.int)) ∈ WS := tb_5 (List.mem_of_getElem? (i := 41) (by decide +kernel)) (by decide +kernel)
theorem lc_X6_nearestCall : LC mX6_nearestCall 2 := ⟨mw_1001, mw_18, by decide +kernel⟩
theorem mw_1019 : (Cond.code ({ cls := "SoupOrHorses$Sense", name := "whenSure", desc := "(LSoupOrHorses$Camp;LSoupOrHorses$Hearing;I)I" } : Jvm.MethodName) prog_8_method_21_code (6 : Nat) (Option.some Jvm.ClassFile.FieldType.int)) ∈ WS := tb_5 (List.mem_of_getElem? (i := 59) (by decide +kernel)) (by decide +kernel)
theorem lc_X6_whenSure : LC mX6_whenSure 3 := ⟨mw_1019, mw_18, by decide +kernel⟩
theorem mw_98 : (Cond.code ({ cls := "SoupOrHorses$Shelf", name := "<init>", desc := "()V" } : Jvm.MethodName) prog_9_method_1_code (1 : Nat) (Option.none : Option Jvm.ClassFile.FieldType)) ∈ WS := tb_1 (List.mem_of_getElem? (i := 98) (by decide +kernel)) (by decide +kernel)
theorem lc_X7_init : LC mX7_init 0 := ⟨mw_98, mw_3, by decide +kernel⟩
theorem mw_253 : (Cond.code ({ cls := "SoupOrHorses$Shelf", name := "hasRow", desc := "()Z" } : Jvm.MethodName) prog_9_method_2_code (1 : Nat) (Option.some Jvm.ClassFile.FieldType.boolean)) ∈ WS := tb_2 (List.mem_of_getElem? (i := 13) (by decide +kernel)) (by decide +kernel)
theorem lc_X7_hasRow : LC mX7_hasRow 0 := ⟨mw_253, mw_3, by decide +kernel⟩
theorem mw_257 : (Cond.code ({ cls := "SoupOrHorses$Shelf", name := "hasEar", desc := "()Z" } : Jvm.MethodName) prog_9_method_3_code (1 : Nat) (Option.some Jvm.ClassFile.FieldType.boolean)) ∈ WS := tb_2 (List.mem_of_getElem? (i := 17) (by decide +kernel)) (by decide +kernel)
theorem lc_X7_hasEar : LC mX7_hasEar 0 := ⟨mw_257, mw_3, by decide +kernel⟩
theorem mw_249 : (Cond.code ({ cls := "SoupOrHorses$Shelf", name := "whyNoRow", desc := "()I" } : Jvm.MethodName) prog_9_method_4_code (1 : Nat) (Option.some Jvm.ClassFile.FieldType.int)) ∈ WS := tb_2 (List.mem_of_getElem? (i := 9) (by decide +kernel)) (by decide +kernel)
theorem lc_X7_whyNoRow : LC mX7_whyNoRow 0 := ⟨mw_249, mw_3, by decide +kernel⟩
theorem mw_322 : (Cond.code ({ cls := "SoupOrHorses$Shelf", name := "earNumber", desc := "()I" } : Jvm.MethodName) prog_9_method_5_code (1 : Nat) (Option.some Jvm.ClassFile.FieldType.int)) ∈ WS := tb_2 (List.mem_of_getElem? (i := 82) (by decide +kernel)) (by decide +kernel)
theorem lc_X7_earNumber : LC mX7_earNumber 0 := ⟨mw_322, mw_3, by decide +kernel⟩
theorem mw_307 : (Cond.code ({ cls := "SoupOrHorses$Shelf", name := "clear", desc := "()V" } : Jvm.MethodName) prog_9_method_6_code (1 : Nat) (Option.none : Option Jvm.ClassFile.FieldType)) ∈ WS := tb_2 (List.mem_of_getElem? (i := 67) (by decide +kernel)) (by decide +kernel)
theorem lc_X7_clear : LC mX7_clear 0 := ⟨mw_307, mw_3, by decide +kernel⟩
theorem mw_311 : (Cond.code ({ cls := "SoupOrHorses$Shelf", name := "putEar", desc := "(I)V" } : Jvm.MethodName) prog_9_method_7_code (2 : Nat) (Option.none : Option Jvm.ClassFile.FieldType)) ∈ WS := tb_2 (List.mem_of_getElem? (i := 71) (by decide +kernel)) (by decide +kernel)
theorem lc_X7_putEar : LC mX7_putEar 1 := ⟨mw_311, mw_3, by decide +kernel⟩
theorem mw_232 : (Cond.code ({ cls := "SoupOrHorses$Shelf", name := "putRow", desc := "(II)V" } : Jvm.MethodName) prog_9_method_8_code (3 : Nat) (Option.none : Option Jvm.ClassFile.FieldType)) ∈ WS := tb_1 (List.mem_of_getElem? (i := 232) (by decide +kernel)) (by decide +kernel)
theorem lc_X7_putRow : LC mX7_putRow 2 := ⟨mw_232, mw_3, by decide +kernel⟩
theorem mw_1039 : (Cond.code ({ cls := "SoupOrHorses$Shelf", name := "putHearing", desc := "(LSoupOrHorses$Hearing;)V" } : Jvm.MethodName) prog_9_method_9_code (3 : Nat) (Option.none : Option Jvm.ClassFile.FieldType)) ∈ WS := tb_5 (List.mem_of_getElem? (i := 79) (by decide +kernel)) (by decide +kernel)
theorem lc_X7_putHearing : LC mX7_putHearing 1 := ⟨mw_1039, mw_3, by decide +kernel⟩
theorem mw_261 : (Cond.code ({ cls := "SoupOrHorses$Shelf", name := "hasPlaces", desc := "(II)Z" } : Jvm.MethodName) prog_9_method_10_code (3 : Nat) (Option.some Jvm.ClassFile.FieldType.boolean)) ∈ WS := tb_2 (List.mem_of_getElem? (i := 21) (by decide +kernel)) (by decide +kernel)
theorem lc_X7_hasPlaces : LC mX7_hasPlaces 2 := ⟨mw_261, mw_3, by decide +kernel⟩
theorem mw_291 : (Cond.code ({ cls := "SoupOrHorses$Shelf", name := "elementAt", desc := "(I)J" } : Jvm.MethodName) prog_9_method_11_code (2 : Nat) (Option.some Jvm.ClassFile.FieldType.long)) ∈ WS := tb_2 (List.mem_of_getElem? (i := 51) (by decide +kernel)) (by decide +kernel)
theorem lc_X7_elementAt : LC mX7_elementAt 1 := ⟨mw_291, mw_3, by decide +kernel⟩
theorem mw_265 : (Cond.code ({ cls := "SoupOrHorses$Shelf", name := "putElement", desc := "(IJ)V" } : Jvm.MethodName) prog_9_method_12_code (4 : Nat) (Option.none : Option Jvm.ClassFile.FieldType)) ∈ WS := tb_2 (List.mem_of_getElem? (i := 25) (by decide +kernel)) (by decide +kernel)
theorem lc_X7_putElement : LC mX7_putElement 2 := ⟨mw_265, mw_3, by decide +kernel⟩
theorem mw_270 : (Cond.code ({ cls := "SoupOrHorses$Shelf", name := "lowestBits", desc := "(J)J" } : Jvm.MethodName) prog_9_method_13_code (3 : Nat) (Option.some Jvm.ClassFile.FieldType.long)) ∈ WS := tb_2 (List.mem_of_getElem? (i := 30) (by decide +kernel)) (by decide +kernel)
theorem lc_X7_lowestBits : LC mX7_lowestBits 1 := ⟨mw_270, mw_3, by decide +kernel⟩
theorem mw_280 : (Cond.code ({ cls := "SoupOrHorses$Shelf", name := "takeElements", desc := "(LSoupOrHorses$Shelf;III)V" } : Jvm.MethodName) prog_9_method_14_code (5 : Nat) (Option.none : Option Jvm.ClassFile.FieldType)) ∈ WS := tb_2 (List.mem_of_getElem? (i := 40) (by decide +kernel)) (by decide +kernel)
theorem lc_X7_takeElements : LC mX7_takeElements 4 := ⟨mw_280, mw_3, by decide +kernel⟩
theorem mw_365 : (Cond.code ({ cls := "SoupOrHorses$Shelf", name := "startsWithNotes", desc := "(I)Z" } : Jvm.MethodName) prog_9_method_15_code (3 : Nat) (Option.some Jvm.ClassFile.FieldType.boolean)) ∈ WS := tb_2 (List.mem_of_getElem? (i := 125) (by decide +kernel)) (by decide +kernel)
theorem lc_X7_startsWithNotes : LC mX7_startsWithNotes 1 := ⟨mw_365, mw_3, by decide +kernel⟩
theorem mw_685 : (Cond.code ({ cls := "SoupOrHorses$Shelf", name := "firstUnheard", desc := "(I)I" } : Jvm.MethodName) prog_9_method_16_code (5 : Nat) (Option.some Jvm.ClassFile.FieldType.int)) ∈ WS := tb_3 (List.mem_of_getElem? (i := 205) (by decide +kernel)) (by decide +kernel)
theorem lc_X7_firstUnheard : LC mX7_firstUnheard 1 := ⟨mw_685, mw_3, by decide +kernel⟩
theorem mw_117 : (Cond.code ({ cls := "SoupOrHorses$Tape", name := "<init>", desc := "()V" } : Jvm.MethodName) prog_10_method_1_code (1 : Nat) (Option.none : Option Jvm.ClassFile.FieldType)) ∈ WS := tb_1 (List.mem_of_getElem? (i := 117) (by decide +kernel)) (by decide +kernel)
theorem lc_X8_init : LC mX8_init 0 := ⟨mw_117, mw_4, by decide +kernel⟩
theorem mw_457 : (Cond.code ({ cls := "SoupOrHorses$Tape", name := "hasRoom", desc := "()Z" } : Jvm.MethodName) prog_10_method_2_code (1 : Nat) (Option.some Jvm.ClassFile.FieldType.boolean)) ∈ WS := tb_2 (List.mem_of_getElem? (i := 217) (by decide +kernel)) (by decide +kernel)
theorem lc_X8_hasRoom : LC mX8_hasRoom 0 := ⟨mw_457, mw_4, by decide +kernel⟩
theorem mw_461 : (Cond.code ({ cls := "SoupOrHorses$Tape", name := "append", desc := "(I)I" } : Jvm.MethodName) prog_10_method_3_code (2 : Nat) (Option.some Jvm.ClassFile.FieldType.int)) ∈ WS := tb_2 (List.mem_of_getElem? (i := 221) (by decide +kernel)) (by decide +kernel)
theorem lc_X8_append : LC mX8_append 1 := ⟨mw_461, mw_4, by decide +kernel⟩
theorem mw_469 : (Cond.code ({ cls := "SoupOrHorses$Tape", name := "empty", desc := "()I" } : Jvm.MethodName) prog_10_method_4_code (2 : Nat) (Option.some Jvm.ClassFile.FieldType.int)) ∈ WS := tb_2 (List.mem_of_getElem? (i := 229) (by decide +kernel)) (by decide +kernel)
theorem lc_X8_empty : LC mX8_empty 0 := ⟨mw_469, mw_4, by decide +kernel⟩
theorem mw_493 : (Cond.code ({ cls := "SoupOrHorses$Tape", name := "byteAt", desc := "(I)I" } : Jvm.MethodName) prog_10_method_5_code (2 : Nat) (Option.some Jvm.ClassFile.FieldType.int)) ∈ WS := tb_3 (List.mem_of_getElem? (i := 13) (by decide +kernel)) (by decide +kernel)
theorem lc_X8_byteAt : LC mX8_byteAt 1 := ⟨mw_493, mw_4, by decide +kernel⟩
theorem mw_496 : (Cond.code ({ cls := "SoupOrHorses$Tape", name := "isLetter", desc := "(I)Z" } : Jvm.MethodName) prog_10_method_6_code (1 : Nat) (Option.some Jvm.ClassFile.FieldType.boolean)) ∈ WS := tb_3 (List.mem_of_getElem? (i := 16) (by decide +kernel)) (by decide +kernel)
theorem lc_X8_isLetter : LC mX8_isLetter 1 := ⟨mw_496, mw_4, by decide +kernel⟩
theorem mw_499 : (Cond.code ({ cls := "SoupOrHorses$Tape", name := "isDigit", desc := "(I)Z" } : Jvm.MethodName) prog_10_method_7_code (1 : Nat) (Option.some Jvm.ClassFile.FieldType.boolean)) ∈ WS := tb_3 (List.mem_of_getElem? (i := 19) (by decide +kernel)) (by decide +kernel)
theorem lc_X8_isDigit : LC mX8_isDigit 1 := ⟨mw_499, mw_4, by decide +kernel⟩
theorem mw_485 : (Cond.code ({ cls := "SoupOrHorses$Tape", name := "toFirstToken", desc := "()V" } : Jvm.MethodName) prog_10_method_8_code (1 : Nat) (Option.none : Option Jvm.ClassFile.FieldType)) ∈ WS := tb_3 (List.mem_of_getElem? (i := 5) (by decide +kernel)) (by decide +kernel)
theorem lc_X8_toFirstToken : LC mX8_toFirstToken 0 := ⟨mw_485, mw_4, by decide +kernel⟩
theorem mw_489 : (Cond.code ({ cls := "SoupOrHorses$Tape", name := "toNextToken", desc := "()V" } : Jvm.MethodName) prog_10_method_9_code (1 : Nat) (Option.none : Option Jvm.ClassFile.FieldType)) ∈ WS := tb_3 (List.mem_of_getElem? (i := 9) (by decide +kernel)) (by decide +kernel)
theorem lc_X8_toNextToken : LC mX8_toNextToken 0 := ⟨mw_489, mw_4, by decide +kernel⟩
theorem mw_615 : (Cond.code ({ cls := "SoupOrHorses$Tape", name := "isAtEnd", desc := "()Z" } : Jvm.MethodName) prog_10_method_10_code (1 : Nat) (Option.some Jvm.ClassFile.FieldType.boolean)) ∈ WS := tb_3 (List.mem_of_getElem? (i := 135) (by decide +kernel)) (by decide +kernel)
theorem lc_X8_isAtEnd : LC mX8_isAtEnd 0 := ⟨mw_615, mw_4, by decide +kernel⟩
theorem mw_619 : (Cond.code ({ cls := "SoupOrHorses$Tape", name := "isAtSign", desc := "()Z" } : Jvm.MethodName) prog_10_method_11_code (1 : Nat) (Option.some Jvm.ClassFile.FieldType.boolean)) ∈ WS := tb_3 (List.mem_of_getElem? (i := 139) (by decide +kernel)) (by decide +kernel)
theorem lc_X8_isAtSign : LC mX8_isAtSign 0 := ⟨mw_619, mw_4, by decide +kernel⟩
theorem mw_507 : (Cond.code ({ cls := "SoupOrHorses$Tape", name := "isAtWord", desc := "(Ljava/lang/String;)Z" } : Jvm.MethodName) prog_10_method_12_code (3 : Nat) (Option.some Jvm.ClassFile.FieldType.boolean)) ∈ WS := tb_3 (List.mem_of_getElem? (i := 27) (by decide +kernel)) (by decide +kernel)
theorem lc_X8_isAtWord : LC mX8_isAtWord 1 := ⟨mw_507, mw_4, by decide +kernel⟩
theorem mw_564 : (Cond.code ({ cls := "SoupOrHorses$Tape", name := "countTextNotes", desc := "()I" } : Jvm.MethodName) prog_10_method_13_code (3 : Nat) (Option.some Jvm.ClassFile.FieldType.int)) ∈ WS := tb_3 (List.mem_of_getElem? (i := 84) (by decide +kernel)) (by decide +kernel)
theorem lc_X8_countTextNotes : LC mX8_countTextNotes 0 := ⟨mw_564, mw_4, by decide +kernel⟩
theorem mw_568 : (Cond.code ({ cls := "SoupOrHorses$Tape", name := "textNote", desc := "(I)I" } : Jvm.MethodName) prog_10_method_14_code (2 : Nat) (Option.some Jvm.ClassFile.FieldType.int)) ∈ WS := tb_3 (List.mem_of_getElem? (i := 88) (by decide +kernel)) (by decide +kernel)
theorem lc_X8_textNote : LC mX8_textNote 1 := ⟨mw_568, mw_4, by decide +kernel⟩
theorem mw_576 : (Cond.code ({ cls := "SoupOrHorses$Tape", name := "numberHere", desc := "()I" } : Jvm.MethodName) prog_10_method_15_code (3 : Nat) (Option.some Jvm.ClassFile.FieldType.int)) ∈ WS := tb_3 (List.mem_of_getElem? (i := 96) (by decide +kernel)) (by decide +kernel)
theorem lc_X8_numberHere : LC mX8_numberHere 0 := ⟨mw_576, mw_4, by decide +kernel⟩
theorem mw_24 : (Cond.code ({ cls := "SoupOrHorses", name := "<init>", desc := "()V" } : Jvm.MethodName) prog_1_method_1_code (2 : Nat) (Option.none : Option Jvm.ClassFile.FieldType)) ∈ WS := tb_1 (List.mem_of_getElem? (i := 24) (by decide +kernel)) (by decide +kernel)
theorem lc_X9_init : LC mX9_init 0 := ⟨mw_24, mw_1, by decide +kernel⟩
theorem mw_220 : (Cond.code ({ cls := "SoupOrHorses", name := "row", desc := "(III)I" } : Jvm.MethodName) prog_1_method_2_code (5 : Nat) (Option.some Jvm.ClassFile.FieldType.int)) ∈ WS := tb_1 (List.mem_of_getElem? (i := 220) (by decide +kernel)) (by decide +kernel)
theorem lc_X9_row : LC mX9_row 3 := ⟨mw_220, mw_1, by decide +kernel⟩
theorem mw_245 : (Cond.code ({ cls := "SoupOrHorses", name := "set", desc := "(IIJ)I" } : Jvm.MethodName) prog_1_method_3_code (7 : Nat) (Option.some Jvm.ClassFile.FieldType.int)) ∈ WS := tb_2 (List.mem_of_getElem? (i := 5) (by decide +kernel)) (by decide +kernel)
theorem lc_X9_set : LC mX9_set 3 := ⟨mw_245, mw_1, by decide +kernel⟩
theorem mw_274 : (Cond.code ({ cls := "SoupOrHorses", name := "copy", desc := "(IIIII)I" } : Jvm.MethodName) prog_1_method_4_code (8 : Nat) (Option.some Jvm.ClassFile.FieldType.int)) ∈ WS := tb_2 (List.mem_of_getElem? (i := 34) (by decide +kernel)) (by decide +kernel)
theorem lc_X9_copy : LC mX9_copy 5 := ⟨mw_274, mw_1, by decide +kernel⟩
theorem mw_287 : (Cond.code ({ cls := "SoupOrHorses", name := "element", desc := "(II)J" } : Jvm.MethodName) prog_1_method_5_code (4 : Nat) (Option.some Jvm.ClassFile.FieldType.long)) ∈ WS := tb_2 (List.mem_of_getElem? (i := 47) (by decide +kernel)) (by decide +kernel)
theorem lc_X9_element : LC mX9_element 2 := ⟨mw_287, mw_1, by decide +kernel⟩
theorem mw_295 : (Cond.code ({ cls := "SoupOrHorses", name := "holds", desc := "(I)I" } : Jvm.MethodName) prog_1_method_6_code (3 : Nat) (Option.some Jvm.ClassFile.FieldType.int)) ∈ WS := tb_2 (List.mem_of_getElem? (i := 55) (by decide +kernel)) (by decide +kernel)
theorem lc_X9_holds : LC mX9_holds 1 := ⟨mw_295, mw_1, by decide +kernel⟩
theorem mw_299 : (Cond.code ({ cls := "SoupOrHorses", name := "show", desc := "(II)I" } : Jvm.MethodName) prog_1_method_7_code (4 : Nat) (Option.some Jvm.ClassFile.FieldType.int)) ∈ WS := tb_2 (List.mem_of_getElem? (i := 59) (by decide +kernel)) (by decide +kernel)
theorem lc_X9_show : LC mX9_show 2 := ⟨mw_299, mw_1, by decide +kernel⟩
theorem mw_315 : (Cond.code ({ cls := "SoupOrHorses", name := "says", desc := "(II)I" } : Jvm.MethodName) prog_1_method_8_code (5 : Nat) (Option.some Jvm.ClassFile.FieldType.int)) ∈ WS := tb_2 (List.mem_of_getElem? (i := 75) (by decide +kernel)) (by decide +kernel)
theorem lc_X9_says : LC mX9_says 2 := ⟨mw_315, mw_1, by decide +kernel⟩
theorem mw_355 : (Cond.code ({ cls := "SoupOrHorses", name := "call", desc := "(IIII)I" } : Jvm.MethodName) prog_1_method_9_code (9 : Nat) (Option.some Jvm.ClassFile.FieldType.int)) ∈ WS := tb_2 (List.mem_of_getElem? (i := 115) (by decide +kernel)) (by decide +kernel)
theorem lc_X9_call : LC mX9_call 4 := ⟨mw_355, mw_1, by decide +kernel⟩
theorem mw_389 : (Cond.code ({ cls := "SoupOrHorses", name := "ear", desc := "(II)I" } : Jvm.MethodName) prog_1_method_10_code (3 : Nat) (Option.some Jvm.ClassFile.FieldType.int)) ∈ WS := tb_2 (List.mem_of_getElem? (i := 149) (by decide +kernel)) (by decide +kernel)
theorem lc_X9_ear : LC mX9_ear 2 := ⟨mw_389, mw_1, by decide +kernel⟩
theorem mw_404 : (Cond.code ({ cls := "SoupOrHorses", name := "man", desc := "(II)I" } : Jvm.MethodName) prog_1_method_11_code (3 : Nat) (Option.some Jvm.ClassFile.FieldType.int)) ∈ WS := tb_2 (List.mem_of_getElem? (i := 164) (by decide +kernel)) (by decide +kernel)
theorem lc_X9_man : LC mX9_man 2 := ⟨mw_404, mw_1, by decide +kernel⟩
theorem mw_419 : (Cond.code ({ cls := "SoupOrHorses", name := "tell", desc := "(III)I" } : Jvm.MethodName) prog_1_method_12_code (4 : Nat) (Option.some Jvm.ClassFile.FieldType.int)) ∈ WS := tb_2 (List.mem_of_getElem? (i := 179) (by decide +kernel)) (by decide +kernel)
theorem lc_X9_tell : LC mX9_tell 3 := ⟨mw_419, mw_1, by decide +kernel⟩
theorem mw_443 : (Cond.code ({ cls := "SoupOrHorses", name := "ask", desc := "(II)I" } : Jvm.MethodName) prog_1_method_13_code (4 : Nat) (Option.some Jvm.ClassFile.FieldType.int)) ∈ WS := tb_2 (List.mem_of_getElem? (i := 203) (by decide +kernel)) (by decide +kernel)
theorem lc_X9_ask : LC mX9_ask 2 := ⟨mw_443, mw_1, by decide +kernel⟩
theorem mw_453 : (Cond.code ({ cls := "SoupOrHorses", name := "feed", desc := "(I)I" } : Jvm.MethodName) prog_1_method_14_code (2 : Nat) (Option.some Jvm.ClassFile.FieldType.int)) ∈ WS := tb_2 (List.mem_of_getElem? (i := 213) (by decide +kernel)) (by decide +kernel)
theorem lc_X9_feed : LC mX9_feed 1 := ⟨mw_453, mw_1, by decide +kernel⟩
theorem mw_465 : (Cond.code ({ cls := "SoupOrHorses", name := "wipe", desc := "()I" } : Jvm.MethodName) prog_1_method_15_code (1 : Nat) (Option.some Jvm.ClassFile.FieldType.int)) ∈ WS := tb_2 (List.mem_of_getElem? (i := 225) (by decide +kernel)) (by decide +kernel)
theorem lc_X9_wipe : LC mX9_wipe 0 := ⟨mw_465, mw_1, by decide +kernel⟩
theorem mw_473 : (Cond.code ({ cls := "SoupOrHorses", name := "camp", desc := "()I" } : Jvm.MethodName) prog_1_method_16_code (2 : Nat) (Option.some Jvm.ClassFile.FieldType.int)) ∈ WS := tb_2 (List.mem_of_getElem? (i := 233) (by decide +kernel)) (by decide +kernel)
theorem lc_X9_camp : LC mX9_camp 0 := ⟨mw_473, mw_1, by decide +kernel⟩
theorem mw_624 : (Cond.code ({ cls := "SoupOrHorses", name := "callOf", desc := "(II)I" } : Jvm.MethodName) prog_1_method_17_code (3 : Nat) (Option.some Jvm.ClassFile.FieldType.int)) ∈ WS := tb_3 (List.mem_of_getElem? (i := 144) (by decide +kernel)) (by decide +kernel)
theorem lc_X9_callOf : LC mX9_callOf 2 := ⟨mw_624, mw_1, by decide +kernel⟩
theorem mw_643 : (Cond.code ({ cls := "SoupOrHorses", name := "earOf", desc := "(II)I" } : Jvm.MethodName) prog_1_method_18_code (3 : Nat) (Option.some Jvm.ClassFile.FieldType.int)) ∈ WS := tb_3 (List.mem_of_getElem? (i := 163) (by decide +kernel)) (by decide +kernel)
theorem lc_X9_earOf : LC mX9_earOf 2 := ⟨mw_643, mw_1, by decide +kernel⟩
theorem mw_647 : (Cond.code ({ cls := "SoupOrHorses", name := "manOf", desc := "(II)I" } : Jvm.MethodName) prog_1_method_19_code (3 : Nat) (Option.some Jvm.ClassFile.FieldType.int)) ∈ WS := tb_3 (List.mem_of_getElem? (i := 167) (by decide +kernel)) (by decide +kernel)
theorem lc_X9_manOf : LC mX9_manOf 2 := ⟨mw_647, mw_1, by decide +kernel⟩
theorem mw_663 : (Cond.code ({ cls := "SoupOrHorses", name := "heard", desc := "(III)I" } : Jvm.MethodName) prog_1_method_20_code (4 : Nat) (Option.some Jvm.ClassFile.FieldType.int)) ∈ WS := tb_3 (List.mem_of_getElem? (i := 183) (by decide +kernel)) (by decide +kernel)
theorem lc_X9_heard : LC mX9_heard 3 := ⟨mw_663, mw_1, by decide +kernel⟩
theorem mw_677 : (Cond.code ({ cls := "SoupOrHorses", name := "fits", desc := "(IIZII)I" } : Jvm.MethodName) prog_1_method_21_code (7 : Nat) (Option.some Jvm.ClassFile.FieldType.int)) ∈ WS := tb_3 (List.mem_of_getElem? (i := 197) (by decide +kernel)) (by decide +kernel)
theorem lc_X9_fits : LC mX9_fits 5 := ⟨mw_677, mw_1, by decide +kernel⟩
theorem mw_713 : (Cond.code ({ cls := "SoupOrHorses", name := "likely", desc := "(IIZII)I" } : Jvm.MethodName) prog_1_method_22_code (7 : Nat) (Option.some Jvm.ClassFile.FieldType.int)) ∈ WS := tb_3 (List.mem_of_getElem? (i := 233) (by decide +kernel)) (by decide +kernel)
theorem lc_X9_likely : LC mX9_likely 5 := ⟨mw_713, mw_1, by decide +kernel⟩
theorem mw_728 : (Cond.code ({ cls := "SoupOrHorses", name := "guess", desc := "(IIZI)I" } : Jvm.MethodName) prog_1_method_23_code (6 : Nat) (Option.some Jvm.ClassFile.FieldType.int)) ∈ WS := tb_4 (List.mem_of_getElem? (i := 8) (by decide +kernel)) (by decide +kernel)
theorem lc_X9_guess : LC mX9_guess 4 := ⟨mw_728, mw_1, by decide +kernel⟩
theorem mw_735 : (Cond.code ({ cls := "SoupOrHorses", name := "apart", desc := "(II)I" } : Jvm.MethodName) prog_1_method_24_code (3 : Nat) (Option.some Jvm.ClassFile.FieldType.int)) ∈ WS := tb_4 (List.mem_of_getElem? (i := 15) (by decide +kernel)) (by decide +kernel)
theorem lc_X9_apart : LC mX9_apart 2 := ⟨mw_735, mw_1, by decide +kernel⟩
theorem mw_753 : (Cond.code ({ cls := "SoupOrHorses", name := "known", desc := "(II)I" } : Jvm.MethodName) prog_1_method_25_code (4 : Nat) (Option.some Jvm.ClassFile.FieldType.int)) ∈ WS := tb_4 (List.mem_of_getElem? (i := 33) (by decide +kernel)) (by decide +kernel)
theorem lc_X9_known : LC mX9_known 2 := ⟨mw_753, mw_1, by decide +kernel⟩
theorem mw_770 : (Cond.code ({ cls := "SoupOrHorses", name := "earFor", desc := "(I)I" } : Jvm.MethodName) prog_1_method_26_code (2 : Nat) (Option.some Jvm.ClassFile.FieldType.int)) ∈ WS := tb_4 (List.mem_of_getElem? (i := 50) (by decide +kernel)) (by decide +kernel)
theorem lc_X9_earFor : LC mX9_earFor 1 := ⟨mw_770, mw_1, by decide +kernel⟩
theorem mw_778 : (Cond.code ({ cls := "SoupOrHorses", name := "mean", desc := "(I)I" } : Jvm.MethodName) prog_1_method_27_code (2 : Nat) (Option.some Jvm.ClassFile.FieldType.int)) ∈ WS := tb_4 (List.mem_of_getElem? (i := 58) (by decide +kernel)) (by decide +kernel)
theorem lc_X9_mean : LC mX9_mean 1 := ⟨mw_778, mw_1, by decide +kernel⟩
theorem mw_789 : (Cond.code ({ cls := "SoupOrHorses", name := "worst", desc := "(I)I" } : Jvm.MethodName) prog_1_method_28_code (2 : Nat) (Option.some Jvm.ClassFile.FieldType.int)) ∈ WS := tb_4 (List.mem_of_getElem? (i := 69) (by decide +kernel)) (by decide +kernel)
theorem lc_X9_worst : LC mX9_worst 1 := ⟨mw_789, mw_1, by decide +kernel⟩
theorem mw_800 : (Cond.code ({ cls := "SoupOrHorses", name := "next", desc := "(III)I" } : Jvm.MethodName) prog_1_method_29_code (5 : Nat) (Option.some Jvm.ClassFile.FieldType.int)) ∈ WS := tb_4 (List.mem_of_getElem? (i := 80) (by decide +kernel)) (by decide +kernel)
theorem lc_X9_next : LC mX9_next 3 := ⟨mw_800, mw_1, by decide +kernel⟩
theorem mw_811 : (Cond.code ({ cls := "SoupOrHorses", name := "alikeFirst", desc := "(II)I" } : Jvm.MethodName) prog_1_method_30_code (3 : Nat) (Option.some Jvm.ClassFile.FieldType.int)) ∈ WS := tb_4 (List.mem_of_getElem? (i := 91) (by decide +kernel)) (by decide +kernel)
theorem lc_X9_alikeFirst : LC mX9_alikeFirst 2 := ⟨mw_811, mw_1, by decide +kernel⟩
theorem mw_821 : (Cond.code ({ cls := "SoupOrHorses", name := "notes", desc := "(I)I" } : Jvm.MethodName) prog_1_method_31_code (2 : Nat) (Option.some Jvm.ClassFile.FieldType.int)) ∈ WS := tb_4 (List.mem_of_getElem? (i := 101) (by decide +kernel)) (by decide +kernel)
theorem lc_X9_notes : LC mX9_notes 1 := ⟨mw_821, mw_1, by decide +kernel⟩
theorem mw_831 : (Cond.code ({ cls := "SoupOrHorses", name := "twins", desc := "()I" } : Jvm.MethodName) prog_1_method_32_code (1 : Nat) (Option.some Jvm.ClassFile.FieldType.int)) ∈ WS := tb_4 (List.mem_of_getElem? (i := 111) (by decide +kernel)) (by decide +kernel)
theorem lc_X9_twins : LC mX9_twins 0 := ⟨mw_831, mw_1, by decide +kernel⟩
theorem mw_843 : (Cond.code ({ cls := "SoupOrHorses", name := "change", desc := "(II)I" } : Jvm.MethodName) prog_1_method_33_code (3 : Nat) (Option.some Jvm.ClassFile.FieldType.int)) ∈ WS := tb_4 (List.mem_of_getElem? (i := 123) (by decide +kernel)) (by decide +kernel)
theorem lc_X9_change : LC mX9_change 2 := ⟨mw_843, mw_1, by decide +kernel⟩
theorem mw_860 : (Cond.code ({ cls := "SoupOrHorses", name := "alike", desc := "(I)I" } : Jvm.MethodName) prog_1_method_34_code (3 : Nat) (Option.some Jvm.ClassFile.FieldType.int)) ∈ WS := tb_4 (List.mem_of_getElem? (i := 140) (by decide +kernel)) (by decide +kernel)
theorem lc_X9_alike : LC mX9_alike 1 := ⟨mw_860, mw_1, by decide +kernel⟩
theorem mw_870 : (Cond.code ({ cls := "SoupOrHorses", name := "mixed", desc := "(II)I" } : Jvm.MethodName) prog_1_method_35_code (3 : Nat) (Option.some Jvm.ClassFile.FieldType.int)) ∈ WS := tb_4 (List.mem_of_getElem? (i := 150) (by decide +kernel)) (by decide +kernel)
theorem lc_X9_mixed : LC mX9_mixed 2 := ⟨mw_870, mw_1, by decide +kernel⟩
theorem mw_883 : (Cond.code ({ cls := "SoupOrHorses", name := "fresh", desc := "(II)I" } : Jvm.MethodName) prog_1_method_36_code (3 : Nat) (Option.some Jvm.ClassFile.FieldType.int)) ∈ WS := tb_4 (List.mem_of_getElem? (i := 163) (by decide +kernel)) (by decide +kernel)
theorem lc_X9_fresh : LC mX9_fresh 2 := ⟨mw_883, mw_1, by decide +kernel⟩
theorem mw_890 : (Cond.code ({ cls := "SoupOrHorses", name := "keep", desc := "(I)I" } : Jvm.MethodName) prog_1_method_37_code (2 : Nat) (Option.some Jvm.ClassFile.FieldType.int)) ∈ WS := tb_4 (List.mem_of_getElem? (i := 170) (by decide +kernel)) (by decide +kernel)
theorem lc_X9_keep : LC mX9_keep 1 := ⟨mw_890, mw_1, by decide +kernel⟩
theorem mw_907 : (Cond.code ({ cls := "SoupOrHorses", name := "does", desc := "(II)I" } : Jvm.MethodName) prog_1_method_38_code (3 : Nat) (Option.some Jvm.ClassFile.FieldType.int)) ∈ WS := tb_4 (List.mem_of_getElem? (i := 187) (by decide +kernel)) (by decide +kernel)
theorem lc_X9_does : LC mX9_does 2 := ⟨mw_907, mw_1, by decide +kernel⟩
theorem mw_947 : (Cond.code ({ cls := "SoupOrHorses", name := "right", desc := "(I)I" } : Jvm.MethodName) prog_1_method_39_code (2 : Nat) (Option.some Jvm.ClassFile.FieldType.int)) ∈ WS := tb_4 (List.mem_of_getElem? (i := 227) (by decide +kernel)) (by decide +kernel)
theorem lc_X9_right : LC mX9_right 1 := ⟨mw_947, mw_1, by decide +kernel⟩
theorem mw_956 : (Cond.code ({ cls := "SoupOrHorses", name := "leads", desc := "(I)I" } : Jvm.MethodName) prog_1_method_40_code (2 : Nat) (Option.some Jvm.ClassFile.FieldType.int)) ∈ WS := tb_4 (List.mem_of_getElem? (i := 236) (by decide +kernel)) (by decide +kernel)
theorem lc_X9_leads : LC mX9_leads 1 := ⟨mw_956, mw_1, by decide +kernel⟩
theorem mw_964 : (Cond.code ({ cls := "SoupOrHorses", name := "follows", desc := "(I)I" } : Jvm.MethodName) prog_1_method_41_code (2 : Nat) (Option.some Jvm.ClassFile.FieldType.int)) ∈ WS := tb_5 (List.mem_of_getElem? (i := 4) (by decide +kernel)) (by decide +kernel)
theorem lc_X9_follows : LC mX9_follows 1 := ⟨mw_964, mw_1, by decide +kernel⟩
theorem mw_972 : (Cond.code ({ cls := "SoupOrHorses", name := "sureFor", desc := "(I)I" } : Jvm.MethodName) prog_1_method_42_code (2 : Nat) (Option.some Jvm.ClassFile.FieldType.int)) ∈ WS := tb_5 (List.mem_of_getElem? (i := 12) (by decide +kernel)) (by decide +kernel)
theorem lc_X9_sureFor : LC mX9_sureFor 1 := ⟨mw_972, mw_1, by decide +kernel⟩
theorem mw_981 : (Cond.code ({ cls := "SoupOrHorses", name := "risk", desc := "(II)I" } : Jvm.MethodName) prog_1_method_43_code (3 : Nat) (Option.some Jvm.ClassFile.FieldType.int)) ∈ WS := tb_5 (List.mem_of_getElem? (i := 21) (by decide +kernel)) (by decide +kernel)
theorem lc_X9_risk : LC mX9_risk 2 := ⟨mw_981, mw_1, by decide +kernel⟩
theorem mw_986 : (Cond.code ({ cls := "SoupOrHorses", name := "learn", desc := "(I)I" } : Jvm.MethodName) prog_1_method_44_code (2 : Nat) (Option.some Jvm.ClassFile.FieldType.int)) ∈ WS := tb_5 (List.mem_of_getElem? (i := 26) (by decide +kernel)) (by decide +kernel)
theorem lc_X9_learn : LC mX9_learn 1 := ⟨mw_986, mw_1, by decide +kernel⟩
theorem mw_998 : (Cond.code ({ cls := "SoupOrHorses", name := "nearest", desc := "(III)I" } : Jvm.MethodName) prog_1_method_45_code (6 : Nat) (Option.some Jvm.ClassFile.FieldType.int)) ∈ WS := tb_5 (List.mem_of_getElem? (i := 38) (by decide +kernel)) (by decide +kernel)
theorem lc_X9_nearest : LC mX9_nearest 3 := ⟨mw_998, mw_1, by decide +kernel⟩
theorem mw_1012 : (Cond.code ({ cls := "SoupOrHorses", name := "judge", desc := "(II)I" } : Jvm.MethodName) prog_1_method_46_code (5 : Nat) (Option.some Jvm.ClassFile.FieldType.int)) ∈ WS := tb_5 (List.mem_of_getElem? (i := 52) (by decide +kernel)) (by decide +kernel)
theorem lc_X9_judge : LC mX9_judge 2 := ⟨mw_1012, mw_1, by decide +kernel⟩
theorem mw_1016 : (Cond.code ({ cls := "SoupOrHorses", name := "when", desc := "(III)I" } : Jvm.MethodName) prog_1_method_47_code (5 : Nat) (Option.some Jvm.ClassFile.FieldType.int)) ∈ WS := tb_5 (List.mem_of_getElem? (i := 56) (by decide +kernel)) (by decide +kernel)
theorem lc_X9_when : LC mX9_when 3 := ⟨mw_1016, mw_1, by decide +kernel⟩
theorem mw_1025 : (Cond.code ({ cls := "SoupOrHorses", name := "sound", desc := "(II)I" } : Jvm.MethodName) prog_1_method_48_code (5 : Nat) (Option.some Jvm.ClassFile.FieldType.int)) ∈ WS := tb_5 (List.mem_of_getElem? (i := 65) (by decide +kernel)) (by decide +kernel)
theorem lc_X9_sound : LC mX9_sound 2 := ⟨mw_1025, mw_1, by decide +kernel⟩
theorem mw_1046 : (Cond.code ({ cls := "SoupOrHorses", name := "days", desc := "(I)I" } : Jvm.MethodName) prog_1_method_49_code (5 : Nat) (Option.some Jvm.ClassFile.FieldType.int)) ∈ WS := tb_5 (List.mem_of_getElem? (i := 86) (by decide +kernel)) (by decide +kernel)
theorem lc_X9_days : LC mX9_days 1 := ⟨mw_1046, mw_1, by decide +kernel⟩
theorem mw_1051 : (Cond.code ({ cls := "SoupOrHorses", name := "drop", desc := "()I" } : Jvm.MethodName) prog_1_method_50_code (1 : Nat) (Option.some Jvm.ClassFile.FieldType.int)) ∈ WS := tb_5 (List.mem_of_getElem? (i := 91) (by decide +kernel)) (by decide +kernel)
theorem lc_X9_drop : LC mX9_drop 0 := ⟨mw_1051, mw_1, by decide +kernel⟩
theorem mw_1059 : (Cond.code ({ cls := "SoupOrHorses", name := "seed", desc := "(I)I" } : Jvm.MethodName) prog_1_method_51_code (3 : Nat) (Option.some Jvm.ClassFile.FieldType.int)) ∈ WS := tb_5 (List.mem_of_getElem? (i := 99) (by decide +kernel)) (by decide +kernel)
theorem lc_X9_seed : LC mX9_seed 1 := ⟨mw_1059, mw_1, by decide +kernel⟩
theorem mw_1063 : (Cond.code ({ cls := "SoupOrHorses", name := "image", desc := "()I" } : Jvm.MethodName) prog_1_method_52_code (1 : Nat) (Option.some Jvm.ClassFile.FieldType.int)) ∈ WS := tb_5 (List.mem_of_getElem? (i := 103) (by decide +kernel)) (by decide +kernel)
theorem lc_X9_image : LC mX9_image 0 := ⟨mw_1063, mw_1, by decide +kernel⟩
theorem mw_1067 : (Cond.code ({ cls := "SoupOrHorses", name := "back", desc := "()I" } : Jvm.MethodName) prog_1_method_53_code (3 : Nat) (Option.some Jvm.ClassFile.FieldType.int)) ∈ WS := tb_5 (List.mem_of_getElem? (i := 107) (by decide +kernel)) (by decide +kernel)
theorem lc_X9_back : LC mX9_back 0 := ⟨mw_1067, mw_1, by decide +kernel⟩
theorem mw_1071 : (Cond.code ({ cls := "SoupOrHorses", name := "status", desc := "(I)I" } : Jvm.MethodName) prog_1_method_54_code (2 : Nat) (Option.some Jvm.ClassFile.FieldType.int)) ∈ WS := tb_5 (List.mem_of_getElem? (i := 111) (by decide +kernel)) (by decide +kernel)
theorem lc_X9_status : LC mX9_status 1 := ⟨mw_1071, mw_1, by decide +kernel⟩
theorem mw_228 : (Cond.code ({ cls := "SoupOrHorses", name := "refuse", desc := "(I)I" } : Jvm.MethodName) prog_1_method_55_code (3 : Nat) (Option.some Jvm.ClassFile.FieldType.int)) ∈ WS := tb_1 (List.mem_of_getElem? (i := 228) (by decide +kernel)) (by decide +kernel)
theorem lc_X9_refuse : LC mX9_refuse 1 := ⟨mw_228, mw_1, by decide +kernel⟩
theorem mw_224 : (Cond.code ({ cls := "SoupOrHorses", name := "shelfAt", desc := "(I)LSoupOrHorses$Shelf;" } : Jvm.MethodName) prog_1_method_56_code (2 : Nat) (Option.some (Jvm.ClassFile.FieldType.object "SoupOrHorses$Shelf"))) ∈ WS := tb_1 (List.mem_of_getElem? (i := 224) (by decide +kernel)) (by decide +kernel)
theorem lc_X9_shelfAt : LC mX9_shelfAt 1 := ⟨mw_224, mw_1, by decide +kernel⟩
theorem mw_1080 : (Cond.code ({ cls := "SoupOrHorses", name := "countFilledShelves", desc := "()I" } : Jvm.MethodName) prog_1_method_57_code (4 : Nat) (Option.some Jvm.ClassFile.FieldType.int)) ∈ WS := tb_5 (List.mem_of_getElem? (i := 120) (by decide +kernel)) (by decide +kernel)
theorem lc_X9_countFilledShelves : LC mX9_countFilledShelves 0 := ⟨mw_1080, mw_1, by decide +kernel⟩
theorem mw_846 : (Cond.code ({ cls := "SoupOrHorses", name := "isDistance", desc := "(I)Z" } : Jvm.MethodName) prog_1_method_58_code (1 : Nat) (Option.some Jvm.ClassFile.FieldType.boolean)) ∈ WS := tb_4 (List.mem_of_getElem? (i := 126) (by decide +kernel)) (by decide +kernel)
theorem lc_X9_isDistance : LC mX9_isDistance 1 := ⟨mw_846, mw_1, by decide +kernel⟩
theorem mw_681 : (Cond.code ({ cls := "SoupOrHorses", name := "takeHearing", desc := "(IIZZ)I" } : Jvm.MethodName) prog_1_method_59_code (7 : Nat) (Option.some Jvm.ClassFile.FieldType.int)) ∈ WS := tb_3 (List.mem_of_getElem? (i := 201) (by decide +kernel)) (by decide +kernel)
theorem lc_X9_takeHearing : LC mX9_takeHearing 4 := ⟨mw_681, mw_1, by decide +kernel⟩
theorem mw_1090 : (Cond.code ({ cls := "SoupOrHorsesModel", name := "<init>", desc := "()V" } : Jvm.MethodName) prog_12_method_1_code (1 : Nat) (Option.none : Option Jvm.ClassFile.FieldType)) ∈ WS := tb_5 (List.mem_of_getElem? (i := 130) (by decide +kernel)) (by decide +kernel)
theorem lc_X10_init : LC mX10_init 0 := ⟨mw_1090, mw_8, by decide +kernel⟩
theorem mw_1224 : (Cond.code ({ cls := "SoupOrHorsesModel", name := "refuse", desc := "(I)I" } : Jvm.MethodName) prog_12_method_2_code (2 : Nat) (Option.some Jvm.ClassFile.FieldType.int)) ∈ WS := tb_6 (List.mem_of_getElem? (i := 24) (by decide +kernel)) (by decide +kernel)
theorem lc_X10_refuse : LC mX10_refuse 1 := ⟨mw_1224, mw_8, by decide +kernel⟩
theorem mw_1218 : (Cond.code ({ cls := "SoupOrHorsesModel", name := "in", desc := "(JJJ)Z" } : Jvm.MethodName) prog_12_method_3_code (6 : Nat) (Option.some Jvm.ClassFile.FieldType.boolean)) ∈ WS := tb_6 (List.mem_of_getElem? (i := 18) (by decide +kernel)) (by decide +kernel)
theorem lc_X10_in : LC mX10_in 3 := ⟨mw_1218, mw_8, by decide +kernel⟩
theorem mw_1310 : (Cond.code ({ cls := "SoupOrHorsesModel", name := "isCall", desc := "(I)Z" } : Jvm.MethodName) prog_12_method_4_code (2 : Nat) (Option.some Jvm.ClassFile.FieldType.boolean)) ∈ WS := tb_6 (List.mem_of_getElem? (i := 110) (by decide +kernel)) (by decide +kernel)
theorem lc_X10_isCall : LC mX10_isCall 1 := ⟨mw_1310, mw_8, by decide +kernel⟩
theorem mw_1259 : (Cond.code ({ cls := "SoupOrHorsesModel", name := "isEar", desc := "(I)Z" } : Jvm.MethodName) prog_12_method_5_code (2 : Nat) (Option.some Jvm.ClassFile.FieldType.boolean)) ∈ WS := tb_6 (List.mem_of_getElem? (i := 59) (by decide +kernel)) (by decide +kernel)
theorem lc_X10_isEar : LC mX10_isEar 1 := ⟨mw_1259, mw_8, by decide +kernel⟩
theorem mw_1406 : (Cond.code ({ cls := "SoupOrHorsesModel", name := "isMan", desc := "(I)Z" } : Jvm.MethodName) prog_12_method_6_code (2 : Nat) (Option.some Jvm.ClassFile.FieldType.boolean)) ∈ WS := tb_6 (List.mem_of_getElem? (i := 206) (by decide +kernel)) (by decide +kernel)
theorem lc_X10_isMan : LC mX10_isMan 1 := ⟨mw_1406, mw_8, by decide +kernel⟩
theorem mw_1553 : (Cond.code ({ cls := "SoupOrHorsesModel", name := "has", desc := "(II)Z" } : Jvm.MethodName) prog_12_method_7_code (2 : Nat) (Option.some Jvm.ClassFile.FieldType.boolean)) ∈ WS := tb_7 (List.mem_of_getElem? (i := 113) (by decide +kernel)) (by decide +kernel)
theorem lc_X10_has : LC mX10_has 2 := ⟨mw_1553, mw_8, by decide +kernel⟩
theorem mw_1214 : (Cond.code ({ cls := "SoupOrHorsesModel", name := "row", desc := "(III)I" } : Jvm.MethodName) prog_12_method_8_code (4 : Nat) (Option.some Jvm.ClassFile.FieldType.int)) ∈ WS := tb_6 (List.mem_of_getElem? (i := 14) (by decide +kernel)) (by decide +kernel)
theorem lc_X10_row : LC mX10_row 3 := ⟨mw_1214, mw_8, by decide +kernel⟩
theorem mw_1228 : (Cond.code ({ cls := "SoupOrHorsesModel", name := "becomesRow", desc := "(III)V" } : Jvm.MethodName) prog_12_method_9_code (5 : Nat) (Option.none : Option Jvm.ClassFile.FieldType)) ∈ WS := tb_6 (List.mem_of_getElem? (i := 28) (by decide +kernel)) (by decide +kernel)
theorem lc_X10_becomesRow : LC mX10_becomesRow 3 := ⟨mw_1228, mw_8, by decide +kernel⟩
theorem mw_1239 : (Cond.code ({ cls := "SoupOrHorsesModel", name := "fit", desc := "(IJ)J" } : Jvm.MethodName) prog_12_method_10_code (3 : Nat) (Option.some Jvm.ClassFile.FieldType.long)) ∈ WS := tb_6 (List.mem_of_getElem? (i := 39) (by decide +kernel)) (by decide +kernel)
theorem lc_X10_fit : LC mX10_fit 2 := ⟨mw_1239, mw_8, by decide +kernel⟩
theorem mw_1236 : (Cond.code ({ cls := "SoupOrHorsesModel", name := "noRow", desc := "(I)I" } : Jvm.MethodName) prog_12_method_11_code (2 : Nat) (Option.some Jvm.ClassFile.FieldType.int)) ∈ WS := tb_6 (List.mem_of_getElem? (i := 36) (by decide +kernel)) (by decide +kernel)
theorem lc_X10_noRow : LC mX10_noRow 1 := ⟨mw_1236, mw_8, by decide +kernel⟩
theorem mw_1232 : (Cond.code ({ cls := "SoupOrHorsesModel", name := "set", desc := "(IIJ)I" } : Jvm.MethodName) prog_12_method_12_code (6 : Nat) (Option.some Jvm.ClassFile.FieldType.int)) ∈ WS := tb_6 (List.mem_of_getElem? (i := 32) (by decide +kernel)) (by decide +kernel)
theorem lc_X10_set : LC mX10_set 3 := ⟨mw_1232, mw_8, by decide +kernel⟩
theorem mw_1243 : (Cond.code ({ cls := "SoupOrHorsesModel", name := "copy", desc := "(IIIII)I" } : Jvm.MethodName) prog_12_method_13_code (7 : Nat) (Option.some Jvm.ClassFile.FieldType.int)) ∈ WS := tb_6 (List.mem_of_getElem? (i := 43) (by decide +kernel)) (by decide +kernel)
theorem lc_X10_copy : LC mX10_copy 5 := ⟨mw_1243, mw_8, by decide +kernel⟩
theorem mw_1247 : (Cond.code ({ cls := "SoupOrHorsesModel", name := "element", desc := "(II)J" } : Jvm.MethodName) prog_12_method_14_code (3 : Nat) (Option.some Jvm.ClassFile.FieldType.long)) ∈ WS := tb_6 (List.mem_of_getElem? (i := 47) (by decide +kernel)) (by decide +kernel)
theorem lc_X10_element : LC mX10_element 2 := ⟨mw_1247, mw_8, by decide +kernel⟩
theorem mw_1251 : (Cond.code ({ cls := "SoupOrHorsesModel", name := "holds", desc := "(I)I" } : Jvm.MethodName) prog_12_method_15_code (2 : Nat) (Option.some Jvm.ClassFile.FieldType.int)) ∈ WS := tb_6 (List.mem_of_getElem? (i := 51) (by decide +kernel)) (by decide +kernel)
theorem lc_X10_holds : LC mX10_holds 1 := ⟨mw_1251, mw_8, by decide +kernel⟩
theorem mw_1255 : (Cond.code ({ cls := "SoupOrHorsesModel", name := "show", desc := "(II)I" } : Jvm.MethodName) prog_12_method_16_code (3 : Nat) (Option.some Jvm.ClassFile.FieldType.int)) ∈ WS := tb_6 (List.mem_of_getElem? (i := 55) (by decide +kernel)) (by decide +kernel)
theorem lc_X10_show : LC mX10_show 2 := ⟨mw_1255, mw_8, by decide +kernel⟩
theorem mw_1267 : (Cond.code ({ cls := "SoupOrHorsesModel", name := "isUnder", desc := "(II)Z" } : Jvm.MethodName) prog_12_method_17_code (2 : Nat) (Option.some Jvm.ClassFile.FieldType.boolean)) ∈ WS := tb_6 (List.mem_of_getElem? (i := 67) (by decide +kernel)) (by decide +kernel)
theorem lc_X10_isUnder : LC mX10_isUnder 2 := ⟨mw_1267, mw_8, by decide +kernel⟩
theorem mw_1263 : (Cond.code ({ cls := "SoupOrHorsesModel", name := "says", desc := "(II)I" } : Jvm.MethodName) prog_12_method_18_code (7 : Nat) (Option.some Jvm.ClassFile.FieldType.int)) ∈ WS := tb_6 (List.mem_of_getElem? (i := 63) (by decide +kernel)) (by decide +kernel)
theorem lc_X10_says : LC mX10_says 2 := ⟨mw_1263, mw_8, by decide +kernel⟩
theorem mw_1285 : (Cond.code ({ cls := "SoupOrHorsesModel", name := "addCall", desc := "(III)V" } : Jvm.MethodName) prog_12_method_19_code (4 : Nat) (Option.none : Option Jvm.ClassFile.FieldType)) ∈ WS := tb_6 (List.mem_of_getElem? (i := 85) (by decide +kernel)) (by decide +kernel)
theorem lc_X10_addCall : LC mX10_addCall 3 := ⟨mw_1285, mw_8, by decide +kernel⟩
theorem mw_1279 : (Cond.code ({ cls := "SoupOrHorsesModel", name := "call", desc := "(IIII)I" } : Jvm.MethodName) prog_12_method_20_code (7 : Nat) (Option.some Jvm.ClassFile.FieldType.int)) ∈ WS := tb_6 (List.mem_of_getElem? (i := 79) (by decide +kernel)) (by decide +kernel)
theorem lc_X10_call : LC mX10_call 4 := ⟨mw_1279, mw_8, by decide +kernel⟩
theorem mw_1294 : (Cond.code ({ cls := "SoupOrHorsesModel", name := "addEar", desc := "(II)V" } : Jvm.MethodName) prog_12_method_21_code (3 : Nat) (Option.none : Option Jvm.ClassFile.FieldType)) ∈ WS := tb_6 (List.mem_of_getElem? (i := 94) (by decide +kernel)) (by decide +kernel)
theorem lc_X10_addEar : LC mX10_addEar 2 := ⟨mw_1294, mw_8, by decide +kernel⟩
theorem mw_1289 : (Cond.code ({ cls := "SoupOrHorsesModel", name := "ear", desc := "(II)I" } : Jvm.MethodName) prog_12_method_22_code (3 : Nat) (Option.some Jvm.ClassFile.FieldType.int)) ∈ WS := tb_6 (List.mem_of_getElem? (i := 89) (by decide +kernel)) (by decide +kernel)
theorem lc_X10_ear : LC mX10_ear 2 := ⟨mw_1289, mw_8, by decide +kernel⟩
theorem mw_1302 : (Cond.code ({ cls := "SoupOrHorsesModel", name := "addMan", desc := "(II)V" } : Jvm.MethodName) prog_12_method_23_code (3 : Nat) (Option.none : Option Jvm.ClassFile.FieldType)) ∈ WS := tb_6 (List.mem_of_getElem? (i := 102) (by decide +kernel)) (by decide +kernel)
theorem lc_X10_addMan : LC mX10_addMan 2 := ⟨mw_1302, mw_8, by decide +kernel⟩
theorem mw_1298 : (Cond.code ({ cls := "SoupOrHorsesModel", name := "man", desc := "(II)I" } : Jvm.MethodName) prog_12_method_24_code (3 : Nat) (Option.some Jvm.ClassFile.FieldType.int)) ∈ WS := tb_6 (List.mem_of_getElem? (i := 98) (by decide +kernel)) (by decide +kernel)
theorem lc_X10_man : LC mX10_man 2 := ⟨mw_1298, mw_8, by decide +kernel⟩
theorem mw_1306 : (Cond.code ({ cls := "SoupOrHorsesModel", name := "tell", desc := "(III)I" } : Jvm.MethodName) prog_12_method_25_code (7 : Nat) (Option.some Jvm.ClassFile.FieldType.int)) ∈ WS := tb_6 (List.mem_of_getElem? (i := 106) (by decide +kernel)) (by decide +kernel)
theorem lc_X10_tell : LC mX10_tell 3 := ⟨mw_1306, mw_8, by decide +kernel⟩
theorem mw_1314 : (Cond.code ({ cls := "SoupOrHorsesModel", name := "ask", desc := "(II)I" } : Jvm.MethodName) prog_12_method_26_code (5 : Nat) (Option.some Jvm.ClassFile.FieldType.int)) ∈ WS := tb_6 (List.mem_of_getElem? (i := 114) (by decide +kernel)) (by decide +kernel)
theorem lc_X10_ask : LC mX10_ask 2 := ⟨mw_1314, mw_8, by decide +kernel⟩
theorem mw_1320 : (Cond.code ({ cls := "SoupOrHorsesModel", name := "feed", desc := "(I)I" } : Jvm.MethodName) prog_12_method_27_code (2 : Nat) (Option.some Jvm.ClassFile.FieldType.int)) ∈ WS := tb_6 (List.mem_of_getElem? (i := 120) (by decide +kernel)) (by decide +kernel)
theorem lc_X10_feed : LC mX10_feed 1 := ⟨mw_1320, mw_8, by decide +kernel⟩
theorem mw_1325 : (Cond.code ({ cls := "SoupOrHorsesModel", name := "wipe", desc := "()I" } : Jvm.MethodName) prog_12_method_28_code (2 : Nat) (Option.some Jvm.ClassFile.FieldType.int)) ∈ WS := tb_6 (List.mem_of_getElem? (i := 125) (by decide +kernel)) (by decide +kernel)
theorem lc_X10_wipe : LC mX10_wipe 0 := ⟨mw_1325, mw_8, by decide +kernel⟩
theorem mw_1353 : (Cond.code ({ cls := "SoupOrHorsesModel", name := "isLetter", desc := "(I)Z" } : Jvm.MethodName) prog_12_method_29_code (1 : Nat) (Option.some Jvm.ClassFile.FieldType.boolean)) ∈ WS := tb_6 (List.mem_of_getElem? (i := 153) (by decide +kernel)) (by decide +kernel)
theorem lc_X10_isLetter : LC mX10_isLetter 1 := ⟨mw_1353, mw_8, by decide +kernel⟩
theorem mw_1356 : (Cond.code ({ cls := "SoupOrHorsesModel", name := "isDigit", desc := "(I)Z" } : Jvm.MethodName) prog_12_method_30_code (1 : Nat) (Option.some Jvm.ClassFile.FieldType.boolean)) ∈ WS := tb_6 (List.mem_of_getElem? (i := 156) (by decide +kernel)) (by decide +kernel)
theorem lc_X10_isDigit : LC mX10_isDigit 1 := ⟨mw_1356, mw_8, by decide +kernel⟩
theorem mw_1350 : (Cond.code ({ cls := "SoupOrHorsesModel", name := "token", desc := "()V" } : Jvm.MethodName) prog_12_method_31_code (1 : Nat) (Option.none : Option Jvm.ClassFile.FieldType)) ∈ WS := tb_6 (List.mem_of_getElem? (i := 150) (by decide +kernel)) (by decide +kernel)
theorem lc_X10_token : LC mX10_token 0 := ⟨mw_1350, mw_8, by decide +kernel⟩
theorem mw_1376 : (Cond.code ({ cls := "SoupOrHorsesModel", name := "wrong", desc := "()Z" } : Jvm.MethodName) prog_12_method_32_code (1 : Nat) (Option.some Jvm.ClassFile.FieldType.boolean)) ∈ WS := tb_6 (List.mem_of_getElem? (i := 176) (by decide +kernel)) (by decide +kernel)
theorem lc_X10_wrong : LC mX10_wrong 0 := ⟨mw_1376, mw_8, by decide +kernel⟩
theorem mw_1366 : (Cond.code ({ cls := "SoupOrHorsesModel", name := "isWord", desc := "(Ljava/lang/String;)Z" } : Jvm.MethodName) prog_12_method_33_code (3 : Nat) (Option.some Jvm.ClassFile.FieldType.boolean)) ∈ WS := tb_6 (List.mem_of_getElem? (i := 166) (by decide +kernel)) (by decide +kernel)
theorem lc_X10_isWord : LC mX10_isWord 1 := ⟨mw_1366, mw_8, by decide +kernel⟩
theorem mw_1380 : (Cond.code ({ cls := "SoupOrHorsesModel", name := "number", desc := "(III)Z" } : Jvm.MethodName) prog_12_method_34_code (4 : Nat) (Option.some Jvm.ClassFile.FieldType.boolean)) ∈ WS := tb_6 (List.mem_of_getElem? (i := 180) (by decide +kernel)) (by decide +kernel)
theorem lc_X10_number : LC mX10_number 3 := ⟨mw_1380, mw_8, by decide +kernel⟩
theorem mw_1385 : (Cond.code ({ cls := "SoupOrHorsesModel", name := "tells", desc := "(II)Z" } : Jvm.MethodName) prog_12_method_35_code (3 : Nat) (Option.some Jvm.ClassFile.FieldType.boolean)) ∈ WS := tb_6 (List.mem_of_getElem? (i := 185) (by decide +kernel)) (by decide +kernel)
theorem lc_X10_tells : LC mX10_tells 2 := ⟨mw_1385, mw_8, by decide +kernel⟩
theorem mw_1372 : (Cond.code ({ cls := "SoupOrHorsesModel", name := "callTold", desc := "()Z" } : Jvm.MethodName) prog_12_method_36_code (3 : Nat) (Option.some Jvm.ClassFile.FieldType.boolean)) ∈ WS := tb_6 (List.mem_of_getElem? (i := 172) (by decide +kernel)) (by decide +kernel)
theorem lc_X10_callTold : LC mX10_callTold 0 := ⟨mw_1372, mw_8, by decide +kernel⟩
theorem mw_1361 : (Cond.code ({ cls := "SoupOrHorsesModel", name := "statement", desc := "()Z" } : Jvm.MethodName) prog_12_method_37_code (2 : Nat) (Option.some Jvm.ClassFile.FieldType.boolean)) ∈ WS := tb_6 (List.mem_of_getElem? (i := 161) (by decide +kernel)) (by decide +kernel)
theorem lc_X10_statement : LC mX10_statement 0 := ⟨mw_1361, mw_8, by decide +kernel⟩
theorem mw_1346 : (Cond.code ({ cls := "SoupOrHorsesModel", name := "readAll", desc := "()Z" } : Jvm.MethodName) prog_12_method_38_code (1 : Nat) (Option.some Jvm.ClassFile.FieldType.boolean)) ∈ WS := tb_6 (List.mem_of_getElem? (i := 146) (by decide +kernel)) (by decide +kernel)
theorem lc_X10_readAll : LC mX10_readAll 0 := ⟨mw_1346, mw_8, by decide +kernel⟩
theorem mw_1333 : (Cond.code ({ cls := "SoupOrHorsesModel", name := "fresh", desc := "()LSoupOrHorsesModel;" } : Jvm.MethodName) prog_12_method_39_code (1 : Nat) (Option.some (Jvm.ClassFile.FieldType.object "SoupOrHorsesModel"))) ∈ WS := tb_6 (List.mem_of_getElem? (i := 133) (by decide +kernel)) (by decide +kernel)
theorem lc_X10_fresh : LC mX10_fresh 0 := ⟨mw_1333, mw_8, by decide +kernel⟩
theorem mw_1329 : (Cond.code ({ cls := "SoupOrHorsesModel", name := "camp", desc := "()I" } : Jvm.MethodName) prog_12_method_40_code (3 : Nat) (Option.some Jvm.ClassFile.FieldType.int)) ∈ WS := tb_6 (List.mem_of_getElem? (i := 129) (by decide +kernel)) (by decide +kernel)
theorem lc_X10_camp : LC mX10_camp 0 := ⟨mw_1329, mw_8, by decide +kernel⟩
theorem mw_1393 : (Cond.code ({ cls := "SoupOrHorsesModel", name := "callOf", desc := "(II)I" } : Jvm.MethodName) prog_12_method_41_code (3 : Nat) (Option.some Jvm.ClassFile.FieldType.int)) ∈ WS := tb_6 (List.mem_of_getElem? (i := 193) (by decide +kernel)) (by decide +kernel)
theorem lc_X10_callOf : LC mX10_callOf 2 := ⟨mw_1393, mw_8, by decide +kernel⟩
theorem mw_1398 : (Cond.code ({ cls := "SoupOrHorsesModel", name := "earOf", desc := "(II)I" } : Jvm.MethodName) prog_12_method_42_code (3 : Nat) (Option.some Jvm.ClassFile.FieldType.int)) ∈ WS := tb_6 (List.mem_of_getElem? (i := 198) (by decide +kernel)) (by decide +kernel)
theorem lc_X10_earOf : LC mX10_earOf 2 := ⟨mw_1398, mw_8, by decide +kernel⟩
theorem mw_1402 : (Cond.code ({ cls := "SoupOrHorsesModel", name := "manOf", desc := "(II)I" } : Jvm.MethodName) prog_12_method_43_code (3 : Nat) (Option.some Jvm.ClassFile.FieldType.int)) ∈ WS := tb_6 (List.mem_of_getElem? (i := 202) (by decide +kernel)) (by decide +kernel)
theorem lc_X10_manOf : LC mX10_manOf 2 := ⟨mw_1402, mw_8, by decide +kernel⟩
theorem mw_1275 : (Cond.code ({ cls := "SoupOrHorsesModel", name := "isTorn", desc := "(III)Z" } : Jvm.MethodName) prog_12_method_44_code (4 : Nat) (Option.some Jvm.ClassFile.FieldType.boolean)) ∈ WS := tb_6 (List.mem_of_getElem? (i := 75) (by decide +kernel)) (by decide +kernel)
theorem lc_X10_isTorn : LC mX10_isTorn 3 := ⟨mw_1275, mw_8, by decide +kernel⟩
theorem mw_1271 : (Cond.code ({ cls := "SoupOrHorsesModel", name := "isEchoed", desc := "(II)Z" } : Jvm.MethodName) prog_12_method_45_code (3 : Nat) (Option.some Jvm.ClassFile.FieldType.boolean)) ∈ WS := tb_6 (List.mem_of_getElem? (i := 71) (by decide +kernel)) (by decide +kernel)
theorem lc_X10_isEchoed : LC mX10_isEchoed 2 := ⟨mw_1271, mw_8, by decide +kernel⟩
theorem mw_1414 : (Cond.code ({ cls := "SoupOrHorsesModel", name := "hears", desc := "(III)I" } : Jvm.MethodName) prog_12_method_46_code (5 : Nat) (Option.some Jvm.ClassFile.FieldType.int)) ∈ WS := tb_6 (List.mem_of_getElem? (i := 214) (by decide +kernel)) (by decide +kernel)
theorem lc_X10_hears : LC mX10_hears 3 := ⟨mw_1414, mw_8, by decide +kernel⟩
theorem mw_1410 : (Cond.code ({ cls := "SoupOrHorsesModel", name := "heard", desc := "(III)I" } : Jvm.MethodName) prog_12_method_47_code (4 : Nat) (Option.some Jvm.ClassFile.FieldType.int)) ∈ WS := tb_6 (List.mem_of_getElem? (i := 210) (by decide +kernel)) (by decide +kernel)
theorem lc_X10_heard : LC mX10_heard 3 := ⟨mw_1410, mw_8, by decide +kernel⟩
theorem mw_1430 : (Cond.code ({ cls := "SoupOrHorsesModel", name := "fitsHearing", desc := "(II)Z" } : Jvm.MethodName) prog_12_method_48_code (5 : Nat) (Option.some Jvm.ClassFile.FieldType.boolean)) ∈ WS := tb_6 (List.mem_of_getElem? (i := 230) (by decide +kernel)) (by decide +kernel)
theorem lc_X10_fitsHearing : LC mX10_fitsHearing 2 := ⟨mw_1430, mw_8, by decide +kernel⟩
theorem mw_1474 : (Cond.code ({ cls := "SoupOrHorsesModel", name := "hearsOf", desc := "(IIIZ)V" } : Jvm.MethodName) prog_12_method_49_code (6 : Nat) (Option.none : Option Jvm.ClassFile.FieldType)) ∈ WS := tb_7 (List.mem_of_getElem? (i := 34) (by decide +kernel)) (by decide +kernel)
theorem lc_X10_hearsOf : LC mX10_hearsOf 4 := ⟨mw_1474, mw_8, by decide +kernel⟩
theorem mw_1438 : (Cond.code ({ cls := "SoupOrHorsesModel", name := "likelyOf", desc := "(II)I" } : Jvm.MethodName) prog_12_method_50_code (5 : Nat) (Option.some Jvm.ClassFile.FieldType.int)) ∈ WS := tb_6 (List.mem_of_getElem? (i := 238) (by decide +kernel)) (by decide +kernel)
theorem lc_X10_likelyOf : LC mX10_likelyOf 2 := ⟨mw_1438, mw_8, by decide +kernel⟩
theorem mw_1446 : (Cond.code ({ cls := "SoupOrHorsesModel", name := "guessOf", desc := "(I)I" } : Jvm.MethodName) prog_12_method_51_code (4 : Nat) (Option.some Jvm.ClassFile.FieldType.int)) ∈ WS := tb_7 (List.mem_of_getElem? (i := 6) (by decide +kernel)) (by decide +kernel)
theorem lc_X10_guessOf : LC mX10_guessOf 1 := ⟨mw_1446, mw_8, by decide +kernel⟩
theorem mw_1426 : (Cond.code ({ cls := "SoupOrHorsesModel", name := "noNotes", desc := "(II)I" } : Jvm.MethodName) prog_12_method_52_code (5 : Nat) (Option.some Jvm.ClassFile.FieldType.int)) ∈ WS := tb_6 (List.mem_of_getElem? (i := 226) (by decide +kernel)) (by decide +kernel)
theorem lc_X10_noNotes : LC mX10_noNotes 2 := ⟨mw_1426, mw_8, by decide +kernel⟩
theorem mw_1422 : (Cond.code ({ cls := "SoupOrHorsesModel", name := "noHearing", desc := "(IIZZ)I" } : Jvm.MethodName) prog_12_method_53_code (7 : Nat) (Option.some Jvm.ClassFile.FieldType.int)) ∈ WS := tb_6 (List.mem_of_getElem? (i := 222) (by decide +kernel)) (by decide +kernel)
theorem lc_X10_noHearing : LC mX10_noHearing 4 := ⟨mw_1422, mw_8, by decide +kernel⟩
theorem mw_1418 : (Cond.code ({ cls := "SoupOrHorsesModel", name := "fits", desc := "(IIZII)I" } : Jvm.MethodName) prog_12_method_54_code (7 : Nat) (Option.some Jvm.ClassFile.FieldType.int)) ∈ WS := tb_6 (List.mem_of_getElem? (i := 218) (by decide +kernel)) (by decide +kernel)
theorem lc_X10_fits : LC mX10_fits 5 := ⟨mw_1418, mw_8, by decide +kernel⟩
theorem mw_1434 : (Cond.code ({ cls := "SoupOrHorsesModel", name := "likely", desc := "(IIZII)I" } : Jvm.MethodName) prog_12_method_55_code (7 : Nat) (Option.some Jvm.ClassFile.FieldType.int)) ∈ WS := tb_6 (List.mem_of_getElem? (i := 234) (by decide +kernel)) (by decide +kernel)
theorem lc_X10_likely : LC mX10_likely 5 := ⟨mw_1434, mw_8, by decide +kernel⟩
theorem mw_1442 : (Cond.code ({ cls := "SoupOrHorsesModel", name := "guess", desc := "(IIZI)I" } : Jvm.MethodName) prog_12_method_56_code (6 : Nat) (Option.some Jvm.ClassFile.FieldType.int)) ∈ WS := tb_7 (List.mem_of_getElem? (i := 2) (by decide +kernel)) (by decide +kernel)
theorem lc_X10_guess : LC mX10_guess 4 := ⟨mw_1442, mw_8, by decide +kernel⟩
theorem mw_1450 : (Cond.code ({ cls := "SoupOrHorsesModel", name := "next", desc := "(III)I" } : Jvm.MethodName) prog_12_method_57_code (8 : Nat) (Option.some Jvm.ClassFile.FieldType.int)) ∈ WS := tb_7 (List.mem_of_getElem? (i := 10) (by decide +kernel)) (by decide +kernel)
theorem lc_X10_next : LC mX10_next 3 := ⟨mw_1450, mw_8, by decide +kernel⟩
theorem mw_1454 : (Cond.code ({ cls := "SoupOrHorsesModel", name := "when", desc := "(III)I" } : Jvm.MethodName) prog_12_method_58_code (7 : Nat) (Option.some Jvm.ClassFile.FieldType.int)) ∈ WS := tb_7 (List.mem_of_getElem? (i := 14) (by decide +kernel)) (by decide +kernel)
theorem lc_X10_when : LC mX10_when 3 := ⟨mw_1454, mw_8, by decide +kernel⟩
theorem mw_1462 : (Cond.code ({ cls := "SoupOrHorsesModel", name := "apartOf", desc := "(II)I" } : Jvm.MethodName) prog_12_method_59_code (6 : Nat) (Option.some Jvm.ClassFile.FieldType.int)) ∈ WS := tb_7 (List.mem_of_getElem? (i := 22) (by decide +kernel)) (by decide +kernel)
theorem lc_X10_apartOf : LC mX10_apartOf 2 := ⟨mw_1462, mw_8, by decide +kernel⟩
theorem mw_1458 : (Cond.code ({ cls := "SoupOrHorsesModel", name := "apart", desc := "(II)I" } : Jvm.MethodName) prog_12_method_60_code (3 : Nat) (Option.some Jvm.ClassFile.FieldType.int)) ∈ WS := tb_7 (List.mem_of_getElem? (i := 18) (by decide +kernel)) (by decide +kernel)
theorem lc_X10_apart : LC mX10_apart 2 := ⟨mw_1458, mw_8, by decide +kernel⟩
theorem mw_1478 : (Cond.code ({ cls := "SoupOrHorsesModel", name := "isAlone", desc := "(II)Z" } : Jvm.MethodName) prog_12_method_61_code (4 : Nat) (Option.some Jvm.ClassFile.FieldType.boolean)) ∈ WS := tb_7 (List.mem_of_getElem? (i := 38) (by decide +kernel)) (by decide +kernel)
theorem lc_X10_isAlone : LC mX10_isAlone 2 := ⟨mw_1478, mw_8, by decide +kernel⟩
theorem mw_1470 : (Cond.code ({ cls := "SoupOrHorsesModel", name := "knownOf", desc := "(II)I" } : Jvm.MethodName) prog_12_method_62_code (4 : Nat) (Option.some Jvm.ClassFile.FieldType.int)) ∈ WS := tb_7 (List.mem_of_getElem? (i := 30) (by decide +kernel)) (by decide +kernel)
theorem lc_X10_knownOf : LC mX10_knownOf 2 := ⟨mw_1470, mw_8, by decide +kernel⟩
theorem mw_1466 : (Cond.code ({ cls := "SoupOrHorsesModel", name := "known", desc := "(II)I" } : Jvm.MethodName) prog_12_method_63_code (3 : Nat) (Option.some Jvm.ClassFile.FieldType.int)) ∈ WS := tb_7 (List.mem_of_getElem? (i := 26) (by decide +kernel)) (by decide +kernel)
theorem lc_X10_known : LC mX10_known 2 := ⟨mw_1466, mw_8, by decide +kernel⟩
theorem mw_1486 : (Cond.code ({ cls := "SoupOrHorsesModel", name := "behindOf", desc := "(II)I" } : Jvm.MethodName) prog_12_method_64_code (4 : Nat) (Option.some Jvm.ClassFile.FieldType.int)) ∈ WS := tb_7 (List.mem_of_getElem? (i := 46) (by decide +kernel)) (by decide +kernel)
theorem lc_X10_behindOf : LC mX10_behindOf 2 := ⟨mw_1486, mw_8, by decide +kernel⟩
theorem mw_1482 : (Cond.code ({ cls := "SoupOrHorsesModel", name := "earFor", desc := "(I)I" } : Jvm.MethodName) prog_12_method_65_code (4 : Nat) (Option.some Jvm.ClassFile.FieldType.int)) ∈ WS := tb_7 (List.mem_of_getElem? (i := 42) (by decide +kernel)) (by decide +kernel)
theorem lc_X10_earFor : LC mX10_earFor 1 := ⟨mw_1482, mw_8, by decide +kernel⟩
theorem mw_1494 : (Cond.code ({ cls := "SoupOrHorsesModel", name := "uses", desc := "()I" } : Jvm.MethodName) prog_12_method_66_code (3 : Nat) (Option.some Jvm.ClassFile.FieldType.int)) ∈ WS := tb_7 (List.mem_of_getElem? (i := 54) (by decide +kernel)) (by decide +kernel)
theorem lc_X10_uses : LC mX10_uses 0 := ⟨mw_1494, mw_8, by decide +kernel⟩
theorem mw_1490 : (Cond.code ({ cls := "SoupOrHorsesModel", name := "mean", desc := "(I)I" } : Jvm.MethodName) prog_12_method_67_code (5 : Nat) (Option.some Jvm.ClassFile.FieldType.int)) ∈ WS := tb_7 (List.mem_of_getElem? (i := 50) (by decide +kernel)) (by decide +kernel)
theorem lc_X10_mean : LC mX10_mean 1 := ⟨mw_1490, mw_8, by decide +kernel⟩
theorem mw_1502 : (Cond.code ({ cls := "SoupOrHorsesModel", name := "riskOf", desc := "(II)I" } : Jvm.MethodName) prog_12_method_68_code (6 : Nat) (Option.some Jvm.ClassFile.FieldType.int)) ∈ WS := tb_7 (List.mem_of_getElem? (i := 62) (by decide +kernel)) (by decide +kernel)
theorem lc_X10_riskOf : LC mX10_riskOf 2 := ⟨mw_1502, mw_8, by decide +kernel⟩
theorem mw_1498 : (Cond.code ({ cls := "SoupOrHorsesModel", name := "risk", desc := "(II)I" } : Jvm.MethodName) prog_12_method_69_code (3 : Nat) (Option.some Jvm.ClassFile.FieldType.int)) ∈ WS := tb_7 (List.mem_of_getElem? (i := 58) (by decide +kernel)) (by decide +kernel)
theorem lc_X10_risk : LC mX10_risk 2 := ⟨mw_1498, mw_8, by decide +kernel⟩
theorem mw_1506 : (Cond.code ({ cls := "SoupOrHorsesModel", name := "worst", desc := "(I)I" } : Jvm.MethodName) prog_12_method_70_code (4 : Nat) (Option.some Jvm.ClassFile.FieldType.int)) ∈ WS := tb_7 (List.mem_of_getElem? (i := 66) (by decide +kernel)) (by decide +kernel)
theorem lc_X10_worst : LC mX10_worst 1 := ⟨mw_1506, mw_8, by decide +kernel⟩
theorem mw_1510 : (Cond.code ({ cls := "SoupOrHorsesModel", name := "alikeFirst", desc := "(II)I" } : Jvm.MethodName) prog_12_method_71_code (4 : Nat) (Option.some Jvm.ClassFile.FieldType.int)) ∈ WS := tb_7 (List.mem_of_getElem? (i := 70) (by decide +kernel)) (by decide +kernel)
theorem lc_X10_alikeFirst : LC mX10_alikeFirst 2 := ⟨mw_1510, mw_8, by decide +kernel⟩
theorem mw_1514 : (Cond.code ({ cls := "SoupOrHorsesModel", name := "notes", desc := "(I)I" } : Jvm.MethodName) prog_12_method_72_code (5 : Nat) (Option.some Jvm.ClassFile.FieldType.int)) ∈ WS := tb_7 (List.mem_of_getElem? (i := 74) (by decide +kernel)) (by decide +kernel)
theorem lc_X10_notes : LC mX10_notes 1 := ⟨mw_1514, mw_8, by decide +kernel⟩
theorem mw_1518 : (Cond.code ({ cls := "SoupOrHorsesModel", name := "twins", desc := "()I" } : Jvm.MethodName) prog_12_method_73_code (5 : Nat) (Option.some Jvm.ClassFile.FieldType.int)) ∈ WS := tb_7 (List.mem_of_getElem? (i := 78) (by decide +kernel)) (by decide +kernel)
theorem lc_X10_twins : LC mX10_twins 0 := ⟨mw_1518, mw_8, by decide +kernel⟩
theorem mw_1534 : (Cond.code ({ cls := "SoupOrHorsesModel", name := "farFrom", desc := "(II)I" } : Jvm.MethodName) prog_12_method_74_code (6 : Nat) (Option.some Jvm.ClassFile.FieldType.int)) ∈ WS := tb_7 (List.mem_of_getElem? (i := 94) (by decide +kernel)) (by decide +kernel)
theorem lc_X10_farFrom : LC mX10_farFrom 2 := ⟨mw_1534, mw_8, by decide +kernel⟩
theorem mw_1530 : (Cond.code ({ cls := "SoupOrHorsesModel", name := "isFar", desc := "(III)Z" } : Jvm.MethodName) prog_12_method_75_code (5 : Nat) (Option.some Jvm.ClassFile.FieldType.boolean)) ∈ WS := tb_7 (List.mem_of_getElem? (i := 90) (by decide +kernel)) (by decide +kernel)
theorem lc_X10_isFar : LC mX10_isFar 3 := ⟨mw_1530, mw_8, by decide +kernel⟩
theorem mw_1526 : (Cond.code ({ cls := "SoupOrHorsesModel", name := "becomes", desc := "(II)I" } : Jvm.MethodName) prog_12_method_76_code (6 : Nat) (Option.some Jvm.ClassFile.FieldType.int)) ∈ WS := tb_7 (List.mem_of_getElem? (i := 86) (by decide +kernel)) (by decide +kernel)
theorem lc_X10_becomes : LC mX10_becomes 2 := ⟨mw_1526, mw_8, by decide +kernel⟩
theorem mw_1522 : (Cond.code ({ cls := "SoupOrHorsesModel", name := "change", desc := "(II)I" } : Jvm.MethodName) prog_12_method_77_code (9 : Nat) (Option.some Jvm.ClassFile.FieldType.int)) ∈ WS := tb_7 (List.mem_of_getElem? (i := 82) (by decide +kernel)) (by decide +kernel)
theorem lc_X10_change : LC mX10_change 2 := ⟨mw_1522, mw_8, by decide +kernel⟩
theorem mw_1538 : (Cond.code ({ cls := "SoupOrHorsesModel", name := "alike", desc := "(I)I" } : Jvm.MethodName) prog_12_method_78_code (6 : Nat) (Option.some Jvm.ClassFile.FieldType.int)) ∈ WS := tb_7 (List.mem_of_getElem? (i := 98) (by decide +kernel)) (by decide +kernel)
theorem lc_X10_alike : LC mX10_alike 1 := ⟨mw_1538, mw_8, by decide +kernel⟩
theorem mw_1542 : (Cond.code ({ cls := "SoupOrHorsesModel", name := "mixed", desc := "(II)I" } : Jvm.MethodName) prog_12_method_79_code (7 : Nat) (Option.some Jvm.ClassFile.FieldType.int)) ∈ WS := tb_7 (List.mem_of_getElem? (i := 102) (by decide +kernel)) (by decide +kernel)
theorem lc_X10_mixed : LC mX10_mixed 2 := ⟨mw_1542, mw_8, by decide +kernel⟩
theorem mw_1546 : (Cond.code ({ cls := "SoupOrHorsesModel", name := "fresh", desc := "(II)I" } : Jvm.MethodName) prog_12_method_80_code (5 : Nat) (Option.some Jvm.ClassFile.FieldType.int)) ∈ WS := tb_7 (List.mem_of_getElem? (i := 106) (by decide +kernel)) (by decide +kernel)
theorem lc_X10_fresh_ : LC mX10_fresh_ 2 := ⟨mw_1546, mw_8, by decide +kernel⟩
theorem mw_1557 : (Cond.code ({ cls := "SoupOrHorsesModel", name := "areApart", desc := "(II)Z" } : Jvm.MethodName) prog_12_method_81_code (5 : Nat) (Option.some Jvm.ClassFile.FieldType.boolean)) ∈ WS := tb_7 (List.mem_of_getElem? (i := 117) (by decide +kernel)) (by decide +kernel)
theorem lc_X10_areApart : LC mX10_areApart 2 := ⟨mw_1557, mw_8, by decide +kernel⟩
theorem mw_1550 : (Cond.code ({ cls := "SoupOrHorsesModel", name := "keep", desc := "(I)I" } : Jvm.MethodName) prog_12_method_82_code (7 : Nat) (Option.some Jvm.ClassFile.FieldType.int)) ∈ WS := tb_7 (List.mem_of_getElem? (i := 110) (by decide +kernel)) (by decide +kernel)
theorem lc_X10_keep : LC mX10_keep 1 := ⟨mw_1550, mw_8, by decide +kernel⟩
theorem mw_1569 : (Cond.code ({ cls := "SoupOrHorsesModel", name := "mostDo", desc := "(I)I" } : Jvm.MethodName) prog_12_method_83_code (7 : Nat) (Option.some Jvm.ClassFile.FieldType.int)) ∈ WS := tb_7 (List.mem_of_getElem? (i := 129) (by decide +kernel)) (by decide +kernel)
theorem lc_X10_mostDo : LC mX10_mostDo 1 := ⟨mw_1569, mw_8, by decide +kernel⟩
theorem mw_1565 : (Cond.code ({ cls := "SoupOrHorsesModel", name := "goes", desc := "(I)V" } : Jvm.MethodName) prog_12_method_84_code (5 : Nat) (Option.none : Option Jvm.ClassFile.FieldType)) ∈ WS := tb_7 (List.mem_of_getElem? (i := 125) (by decide +kernel)) (by decide +kernel)
theorem lc_X10_goes : LC mX10_goes 1 := ⟨mw_1565, mw_8, by decide +kernel⟩
theorem mw_1561 : (Cond.code ({ cls := "SoupOrHorsesModel", name := "does", desc := "(II)I" } : Jvm.MethodName) prog_12_method_85_code (3 : Nat) (Option.some Jvm.ClassFile.FieldType.int)) ∈ WS := tb_7 (List.mem_of_getElem? (i := 121) (by decide +kernel)) (by decide +kernel)
theorem lc_X10_does : LC mX10_does 2 := ⟨mw_1561, mw_8, by decide +kernel⟩
theorem mw_1577 : (Cond.code ({ cls := "SoupOrHorsesModel", name := "rightOf", desc := "(I)I" } : Jvm.MethodName) prog_12_method_86_code (4 : Nat) (Option.some Jvm.ClassFile.FieldType.int)) ∈ WS := tb_7 (List.mem_of_getElem? (i := 137) (by decide +kernel)) (by decide +kernel)
theorem lc_X10_rightOf : LC mX10_rightOf 1 := ⟨mw_1577, mw_8, by decide +kernel⟩
theorem mw_1573 : (Cond.code ({ cls := "SoupOrHorsesModel", name := "right", desc := "(I)I" } : Jvm.MethodName) prog_12_method_87_code (2 : Nat) (Option.some Jvm.ClassFile.FieldType.int)) ∈ WS := tb_7 (List.mem_of_getElem? (i := 133) (by decide +kernel)) (by decide +kernel)
theorem lc_X10_right : LC mX10_right 1 := ⟨mw_1573, mw_8, by decide +kernel⟩
theorem mw_1581 : (Cond.code ({ cls := "SoupOrHorsesModel", name := "leads", desc := "(I)I" } : Jvm.MethodName) prog_12_method_88_code (3 : Nat) (Option.some Jvm.ClassFile.FieldType.int)) ∈ WS := tb_7 (List.mem_of_getElem? (i := 141) (by decide +kernel)) (by decide +kernel)
theorem lc_X10_leads : LC mX10_leads 1 := ⟨mw_1581, mw_8, by decide +kernel⟩
theorem mw_1585 : (Cond.code ({ cls := "SoupOrHorsesModel", name := "follows", desc := "(I)I" } : Jvm.MethodName) prog_12_method_89_code (4 : Nat) (Option.some Jvm.ClassFile.FieldType.int)) ∈ WS := tb_7 (List.mem_of_getElem? (i := 145) (by decide +kernel)) (by decide +kernel)
theorem lc_X10_follows : LC mX10_follows 1 := ⟨mw_1585, mw_8, by decide +kernel⟩
theorem mw_1589 : (Cond.code ({ cls := "SoupOrHorsesModel", name := "sureFor", desc := "(I)I" } : Jvm.MethodName) prog_12_method_90_code (4 : Nat) (Option.some Jvm.ClassFile.FieldType.int)) ∈ WS := tb_7 (List.mem_of_getElem? (i := 149) (by decide +kernel)) (by decide +kernel)
theorem lc_X10_sureFor : LC mX10_sureFor 1 := ⟨mw_1589, mw_8, by decide +kernel⟩
theorem mw_1593 : (Cond.code ({ cls := "SoupOrHorsesModel", name := "learn", desc := "(I)I" } : Jvm.MethodName) prog_12_method_91_code (6 : Nat) (Option.some Jvm.ClassFile.FieldType.int)) ∈ WS := tb_7 (List.mem_of_getElem? (i := 153) (by decide +kernel)) (by decide +kernel)
theorem lc_X10_learn : LC mX10_learn 1 := ⟨mw_1593, mw_8, by decide +kernel⟩
theorem mw_1605 : (Cond.code ({ cls := "SoupOrHorsesModel", name := "differs", desc := "(I)I" } : Jvm.MethodName) prog_12_method_92_code (6 : Nat) (Option.some Jvm.ClassFile.FieldType.int)) ∈ WS := tb_7 (List.mem_of_getElem? (i := 165) (by decide +kernel)) (by decide +kernel)
theorem lc_X10_differs : LC mX10_differs 1 := ⟨mw_1605, mw_8, by decide +kernel⟩
theorem mw_1601 : (Cond.code ({ cls := "SoupOrHorsesModel", name := "nearestOf", desc := "()I" } : Jvm.MethodName) prog_12_method_93_code (3 : Nat) (Option.some Jvm.ClassFile.FieldType.int)) ∈ WS := tb_7 (List.mem_of_getElem? (i := 161) (by decide +kernel)) (by decide +kernel)
theorem lc_X10_nearestOf : LC mX10_nearestOf 0 := ⟨mw_1601, mw_8, by decide +kernel⟩
theorem mw_1597 : (Cond.code ({ cls := "SoupOrHorsesModel", name := "nearest", desc := "(III)I" } : Jvm.MethodName) prog_12_method_94_code (6 : Nat) (Option.some Jvm.ClassFile.FieldType.int)) ∈ WS := tb_7 (List.mem_of_getElem? (i := 157) (by decide +kernel)) (by decide +kernel)
theorem lc_X10_nearest : LC mX10_nearest 3 := ⟨mw_1597, mw_8, by decide +kernel⟩
theorem mw_1609 : (Cond.code ({ cls := "SoupOrHorsesModel", name := "judge", desc := "(II)I" } : Jvm.MethodName) prog_12_method_95_code (5 : Nat) (Option.some Jvm.ClassFile.FieldType.int)) ∈ WS := tb_7 (List.mem_of_getElem? (i := 169) (by decide +kernel)) (by decide +kernel)
theorem lc_X10_judge : LC mX10_judge 2 := ⟨mw_1609, mw_8, by decide +kernel⟩
theorem mw_1621 : (Cond.code ({ cls := "SoupOrHorsesModel", name := "below", desc := "(I)I" } : Jvm.MethodName) prog_12_method_96_code (2 : Nat) (Option.some Jvm.ClassFile.FieldType.int)) ∈ WS := tb_7 (List.mem_of_getElem? (i := 181) (by decide +kernel)) (by decide +kernel)
theorem lc_X10_below : LC mX10_below 1 := ⟨mw_1621, mw_8, by decide +kernel⟩
theorem mw_1617 : (Cond.code ({ cls := "SoupOrHorsesModel", name := "sounded", desc := "(I)I" } : Jvm.MethodName) prog_12_method_97_code (5 : Nat) (Option.some Jvm.ClassFile.FieldType.int)) ∈ WS := tb_7 (List.mem_of_getElem? (i := 177) (by decide +kernel)) (by decide +kernel)
theorem lc_X10_sounded : LC mX10_sounded 1 := ⟨mw_1617, mw_8, by decide +kernel⟩
theorem mw_1613 : (Cond.code ({ cls := "SoupOrHorsesModel", name := "sound", desc := "(II)I" } : Jvm.MethodName) prog_12_method_98_code (5 : Nat) (Option.some Jvm.ClassFile.FieldType.int)) ∈ WS := tb_7 (List.mem_of_getElem? (i := 173) (by decide +kernel)) (by decide +kernel)
theorem lc_X10_sound : LC mX10_sound 2 := ⟨mw_1613, mw_8, by decide +kernel⟩
theorem mw_1626 : (Cond.code ({ cls := "SoupOrHorsesModel", name := "days", desc := "(I)I" } : Jvm.MethodName) prog_12_method_99_code (5 : Nat) (Option.some Jvm.ClassFile.FieldType.int)) ∈ WS := tb_7 (List.mem_of_getElem? (i := 186) (by decide +kernel)) (by decide +kernel)
theorem lc_X10_days : LC mX10_days 1 := ⟨mw_1626, mw_8, by decide +kernel⟩
theorem mw_1630 : (Cond.code ({ cls := "SoupOrHorsesModel", name := "drop", desc := "()I" } : Jvm.MethodName) prog_12_method_100_code (1 : Nat) (Option.some Jvm.ClassFile.FieldType.int)) ∈ WS := tb_7 (List.mem_of_getElem? (i := 190) (by decide +kernel)) (by decide +kernel)
theorem lc_X10_drop : LC mX10_drop 0 := ⟨mw_1630, mw_8, by decide +kernel⟩
theorem mw_1634 : (Cond.code ({ cls := "SoupOrHorsesModel", name := "seed", desc := "(I)I" } : Jvm.MethodName) prog_12_method_101_code (3 : Nat) (Option.some Jvm.ClassFile.FieldType.int)) ∈ WS := tb_7 (List.mem_of_getElem? (i := 194) (by decide +kernel)) (by decide +kernel)
theorem lc_X10_seed : LC mX10_seed 1 := ⟨mw_1634, mw_8, by decide +kernel⟩
theorem mw_1342 : (Cond.code ({ cls := "SoupOrHorsesModel", name := "copied", desc := "([I[I)V" } : Jvm.MethodName) prog_12_method_102_code (3 : Nat) (Option.none : Option Jvm.ClassFile.FieldType)) ∈ WS := tb_6 (List.mem_of_getElem? (i := 142) (by decide +kernel)) (by decide +kernel)
theorem lc_X10_copied : LC mX10_copied 2 := ⟨mw_1342, mw_8, by decide +kernel⟩
theorem mw_1339 : (Cond.code ({ cls := "SoupOrHorsesModel", name := "takeFrom", desc := "(LSoupOrHorsesModel;)V" } : Jvm.MethodName) prog_12_method_103_code (3 : Nat) (Option.none : Option Jvm.ClassFile.FieldType)) ∈ WS := tb_6 (List.mem_of_getElem? (i := 139) (by decide +kernel)) (by decide +kernel)
theorem lc_X10_takeFrom : LC mX10_takeFrom 1 := ⟨mw_1339, mw_8, by decide +kernel⟩
theorem mw_1638 : (Cond.code ({ cls := "SoupOrHorsesModel", name := "image", desc := "()I" } : Jvm.MethodName) prog_12_method_104_code (1 : Nat) (Option.some Jvm.ClassFile.FieldType.int)) ∈ WS := tb_7 (List.mem_of_getElem? (i := 198) (by decide +kernel)) (by decide +kernel)
theorem lc_X10_image : LC mX10_image 0 := ⟨mw_1638, mw_8, by decide +kernel⟩
theorem mw_1642 : (Cond.code ({ cls := "SoupOrHorsesModel", name := "back", desc := "()I" } : Jvm.MethodName) prog_12_method_105_code (2 : Nat) (Option.some Jvm.ClassFile.FieldType.int)) ∈ WS := tb_7 (List.mem_of_getElem? (i := 202) (by decide +kernel)) (by decide +kernel)
theorem lc_X10_back : LC mX10_back 0 := ⟨mw_1642, mw_8, by decide +kernel⟩
theorem mw_1649 : (Cond.code ({ cls := "SoupOrHorsesModel", name := "sumOf", desc := "([II)I" } : Jvm.MethodName) prog_12_method_106_code (4 : Nat) (Option.some Jvm.ClassFile.FieldType.int)) ∈ WS := tb_7 (List.mem_of_getElem? (i := 209) (by decide +kernel)) (by decide +kernel)
theorem lc_X10_sumOf : LC mX10_sumOf 2 := ⟨mw_1649, mw_8, by decide +kernel⟩
theorem mw_1646 : (Cond.code ({ cls := "SoupOrHorsesModel", name := "status", desc := "(I)I" } : Jvm.MethodName) prog_12_method_107_code (4 : Nat) (Option.some Jvm.ClassFile.FieldType.int)) ∈ WS := tb_7 (List.mem_of_getElem? (i := 206) (by decide +kernel)) (by decide +kernel)
theorem lc_X10_status : LC mX10_status 1 := ⟨mw_1646, mw_8, by decide +kernel⟩
theorem mw_746 : (Cond.code ({ cls := "java/lang/Integer", name := "bitCount", desc := "(I)I" } : Jvm.MethodName) prog_13_method_49_code (1 : Nat) (Option.some Jvm.ClassFile.FieldType.int)) ∈ WS := tb_4 (List.mem_of_getElem? (i := 26) (by decide +kernel)) (by decide +kernel)
theorem mw_19 : (Cond.initialized "java/lang/Integer") ∈ WS := tb_1 (List.mem_of_getElem? (i := 19) (by decide +kernel)) (by decide +kernel)
theorem lc_J6_bitCount_0f7a4 : LC mJ6_bitCount_0f7a4 1 := ⟨mw_746, mw_19, by decide +kernel⟩
theorem mw_1007 : (Cond.code ({ cls := "java/lang/Math", name := "abs", desc := "(I)I" } : Jvm.MethodName) prog_14_method_59_code (1 : Nat) (Option.some Jvm.ClassFile.FieldType.int)) ∈ WS := tb_5 (List.mem_of_getElem? (i := 47) (by decide +kernel)) (by decide +kernel)
theorem mw_9 : (Cond.initialized "java/lang/Math") ∈ WS := tb_1 (List.mem_of_getElem? (i := 9) (by decide +kernel)) (by decide +kernel)
theorem lc_J9_abs_0f7a4 : LC mJ9_abs_0f7a4 1 := ⟨mw_1007, mw_9, by decide +kernel⟩
theorem mw_238 : (Cond.code ({ cls := "java/lang/Math", name := "max", desc := "(II)I" } : Jvm.MethodName) prog_14_method_65_code (2 : Nat) (Option.some Jvm.ClassFile.FieldType.int)) ∈ WS := tb_1 (List.mem_of_getElem? (i := 238) (by decide +kernel)) (by decide +kernel)
theorem lc_J9_max_7cf53 : LC mJ9_max_7cf53 2 := ⟨mw_238, mw_9, by decide +kernel⟩
theorem mw_235 : (Cond.code ({ cls := "java/lang/Math", name := "min", desc := "(II)I" } : Jvm.MethodName) prog_14_method_69_code (2 : Nat) (Option.some Jvm.ClassFile.FieldType.int)) ∈ WS := tb_1 (List.mem_of_getElem? (i := 235) (by decide +kernel)) (by decide +kernel)
theorem lc_J9_min_7cf53 : LC mJ9_min_7cf53 2 := ⟨mw_235, mw_9, by decide +kernel⟩
theorem mw_511 : (Cond.code ({ cls := "java/lang/String", name := "length", desc := "()I" } : Jvm.MethodName) prog_15_method_54_code (1 : Nat) (Option.some Jvm.ClassFile.FieldType.int)) ∈ WS := tb_3 (List.mem_of_getElem? (i := 31) (by decide +kernel)) (by decide +kernel)
theorem mw_14 : (Cond.initialized "java/lang/String") ∈ WS := tb_1 (List.mem_of_getElem? (i := 14) (by decide +kernel)) (by decide +kernel)
theorem lc_J0_length_8abf5 : LC mJ0_length_8abf5 0 := ⟨mw_511, mw_14, by decide +kernel⟩
theorem mw_521 : (Cond.code ({ cls := "java/lang/String", name := "charAt", desc := "(I)C" } : Jvm.MethodName) prog_15_method_56_code (2 : Nat) (Option.some Jvm.ClassFile.FieldType.char)) ∈ WS := tb_3 (List.mem_of_getElem? (i := 41) (by decide +kernel)) (by decide +kernel)
theorem lc_J0_charAt_5068e : LC mJ0_charAt_5068e 1 := ⟨mw_521, mw_14, by decide +kernel⟩
theorem mw_515 : (Cond.code ({ cls := "java/lang/String", name := "coder", desc := "()B" } : Jvm.MethodName) prog_15_method_152_code (1 : Nat) (Option.some Jvm.ClassFile.FieldType.byte)) ∈ WS := tb_3 (List.mem_of_getElem? (i := 35) (by decide +kernel)) (by decide +kernel)
theorem lc_J0_coder_7d493 : LC mJ0_coder_7d493 0 := ⟨mw_515, mw_14, by decide +kernel⟩
theorem mw_525 : (Cond.code ({ cls := "java/lang/String", name := "isLatin1", desc := "()Z" } : Jvm.MethodName) prog_15_method_154_code (1 : Nat) (Option.some Jvm.ClassFile.FieldType.boolean)) ∈ WS := tb_3 (List.mem_of_getElem? (i := 45) (by decide +kernel)) (by decide +kernel)
theorem lc_J0_isLatin1_aae02 : LC mJ0_isLatin1_aae02 0 := ⟨mw_525, mw_14, by decide +kernel⟩
theorem mw_531 : (Cond.code ({ cls := "java/lang/String", name := "checkIndex", desc := "(II)V" } : Jvm.MethodName) prog_15_method_155_code (2 : Nat) (Option.none : Option Jvm.ClassFile.FieldType)) ∈ WS := tb_3 (List.mem_of_getElem? (i := 51) (by decide +kernel)) (by decide +kernel)
theorem lc_J0_checkIndex_df160 : LC mJ0_checkIndex_df160 2 := ⟨mw_531, mw_14, by decide +kernel⟩
theorem mw_528 : (Cond.code ({ cls := "java/lang/StringLatin1", name := "charAt", desc := "([BI)C" } : Jvm.MethodName) prog_16_method_2_code (2 : Nat) (Option.some Jvm.ClassFile.FieldType.char)) ∈ WS := tb_3 (List.mem_of_getElem? (i := 48) (by decide +kernel)) (by decide +kernel)
theorem mw_15 : (Cond.initialized "java/lang/StringLatin1") ∈ WS := tb_1 (List.mem_of_getElem? (i := 15) (by decide +kernel)) (by decide +kernel)
theorem lc_J1_charAt_3b067 : LC mJ1_charAt_3b067 2 := ⟨mw_528, mw_15, by decide +kernel⟩
theorem mw_549 : (Cond.code ({ cls := "java/lang/StringUTF16", name := "getChar", desc := "([BI)C" } : Jvm.MethodName) prog_17_method_5_code (2 : Nat) (Option.some Jvm.ClassFile.FieldType.char)) ∈ WS := tb_3 (List.mem_of_getElem? (i := 69) (by decide +kernel)) (by decide +kernel)
theorem mw_17 : (Cond.initialized "java/lang/StringUTF16") ∈ WS := tb_1 (List.mem_of_getElem? (i := 17) (by decide +kernel)) (by decide +kernel)
theorem lc_J2_getChar_3b067 : LC mJ2_getChar_3b067 2 := ⟨mw_549, mw_17, by decide +kernel⟩
theorem mw_545 : (Cond.code ({ cls := "java/lang/StringUTF16", name := "length", desc := "([B)I" } : Jvm.MethodName) prog_17_method_6_code (1 : Nat) (Option.some Jvm.ClassFile.FieldType.int)) ∈ WS := tb_3 (List.mem_of_getElem? (i := 65) (by decide +kernel)) (by decide +kernel)
theorem lc_J2_length_9d52b : LC mJ2_length_9d52b 1 := ⟨mw_545, mw_17, by decide +kernel⟩
theorem mw_539 : (Cond.code ({ cls := "java/lang/StringUTF16", name := "charAt", desc := "([BI)C" } : Jvm.MethodName) prog_17_method_83_code (2 : Nat) (Option.some Jvm.ClassFile.FieldType.char)) ∈ WS := tb_3 (List.mem_of_getElem? (i := 59) (by decide +kernel)) (by decide +kernel)
theorem lc_J2_charAt_3b067 : LC mJ2_charAt_3b067 2 := ⟨mw_539, mw_17, by decide +kernel⟩
theorem mw_542 : (Cond.code ({ cls := "java/lang/StringUTF16", name := "checkIndex", desc := "(I[B)V" } : Jvm.MethodName) prog_17_method_91_code (2 : Nat) (Option.none : Option Jvm.ClassFile.FieldType)) ∈ WS := tb_3 (List.mem_of_getElem? (i := 62) (by decide +kernel)) (by decide +kernel)
theorem lc_J2_checkIndex_2214a : LC mJ2_checkIndex_2214a 2 := ⟨mw_542, mw_17, by decide +kernel⟩
theorem mw_241 : (Cond.code ({ cls := "java/util/Arrays", name := "fill", desc := "([JJ)V" } : Jvm.MethodName) prog_19_method_101_code (5 : Nat) (Option.none : Option Jvm.ClassFile.FieldType)) ∈ WS := tb_2 (List.mem_of_getElem? (i := 1) (by decide +kernel)) (by decide +kernel)
theorem mw_10 : (Cond.initialized "java/util/Arrays") ∈ WS := tb_1 (List.mem_of_getElem? (i := 10) (by decide +kernel)) (by decide +kernel)
theorem lc_J7_fill_d0a16 : LC mJ7_fill_d0a16 2 := ⟨mw_241, mw_10, by decide +kernel⟩
theorem mw_930 : (Cond.code ({ cls := "java/util/Arrays", name := "fill", desc := "([II)V" } : Jvm.MethodName) prog_19_method_103_code (4 : Nat) (Option.none : Option Jvm.ClassFile.FieldType)) ∈ WS := tb_4 (List.mem_of_getElem? (i := 210) (by decide +kernel)) (by decide +kernel)
theorem lc_J7_fill_53178 : LC mJ7_fill_53178 2 := ⟨mw_930, mw_10, by decide +kernel⟩
theorem mw_536 : (Cond.code ({ cls := "jdk/internal/util/Preconditions", name := "checkIndex", desc := "(IILjava/util/function/BiFunction;)I" } : Jvm.MethodName) prog_20_method_11_code (3 : Nat) (Option.some Jvm.ClassFile.FieldType.int)) ∈ WS := tb_3 (List.mem_of_getElem? (i := 56) (by decide +kernel)) (by decide +kernel)
theorem mw_16 : (Cond.initialized "jdk/internal/util/Preconditions") ∈ WS := tb_1 (List.mem_of_getElem? (i := 16) (by decide +kernel)) (by decide +kernel)
theorem lc_J3_checkIndex_8e157 : LC mJ3_checkIndex_8e157 3 := ⟨mw_536, mw_16, by decide +kernel⟩
theorem mw_22 : (Cond.methodLink "SoupOrHorsesLaw" (9 : Nat) ({ cls := "SoupOrHorses", name := "<init>", desc := "()V" } : Jvm.MethodName)) ∈ WS := tb_1 (List.mem_of_getElem? (i := 22) (by decide +kernel)) (by decide +kernel)
theorem mw_23 : (Cond.instanceMethod ({ cls := "SoupOrHorses", name := "<init>", desc := "()V" } : Jvm.MethodName)) ∈ WS := tb_1 (List.mem_of_getElem? (i := 23) (by decide +kernel)) (by decide +kernel)
theorem li_L_9 : LI RL 9 mX9_init 0 := ⟨lc_X9_init, mw_22, mw_23, rfl, rfl⟩
theorem mw_219 : (Cond.selects "SoupOrHorses" ({ cls := "SoupOrHorses", name := "row", desc := "(III)I" } : Jvm.MethodName) ({ cls := "SoupOrHorses", name := "row", desc := "(III)I" } : Jvm.MethodName)) ∈ WS := tb_1 (List.mem_of_getElem? (i := 219) (by decide +kernel)) (by decide +kernel)
theorem mw_217 : (Cond.methodLink "SoupOrHorsesLaw" (13 : Nat) ({ cls := "SoupOrHorses", name := "row", desc := "(III)I" } : Jvm.MethodName)) ∈ WS := tb_1 (List.mem_of_getElem? (i := 217) (by decide +kernel)) (by decide +kernel)
theorem mw_218 : (Cond.instanceMethod ({ cls := "SoupOrHorses", name := "row", desc := "(III)I" } : Jvm.MethodName)) ∈ WS := tb_1 (List.mem_of_getElem? (i := 218) (by decide +kernel)) (by decide +kernel)
theorem lv_L_13 : LV RL 13 mX9_row 3 := ⟨lc_X9_row, mw_217, mw_218, mw_219⟩
theorem ms_0 : Cond.selects yX9_shelfAt.cls yX9_shelfAt yX9_shelfAt ∈ WS := WS_of (List.mem_append_left _ (List.mem_of_getElem? (i := 0) (by decide +kernel))) (by decide +kernel)
theorem mw_221 : (Cond.methodLink "SoupOrHorses" (65 : Nat) ({ cls := "SoupOrHorses", name := "shelfAt", desc := "(I)LSoupOrHorses$Shelf;" } : Jvm.MethodName)) ∈ WS := tb_1 (List.mem_of_getElem? (i := 221) (by decide +kernel)) (by decide +kernel)
theorem mw_223 : (Cond.instanceMethod ({ cls := "SoupOrHorses", name := "shelfAt", desc := "(I)LSoupOrHorses$Shelf;" } : Jvm.MethodName)) ∈ WS := tb_1 (List.mem_of_getElem? (i := 223) (by decide +kernel)) (by decide +kernel)
theorem lv_X9_65 : LV RX9 65 mX9_shelfAt 1 := ⟨lc_X9_shelfAt, mw_221, mw_223, ms_0⟩
theorem ms_1 : Cond.selects yX9_refuse.cls yX9_refuse yX9_refuse ∈ WS := WS_of (List.mem_append_left _ (List.mem_of_getElem? (i := 1) (by decide +kernel))) (by decide +kernel)
theorem mw_225 : (Cond.methodLink "SoupOrHorses" (69 : Nat) ({ cls := "SoupOrHorses", name := "refuse", desc := "(I)I" } : Jvm.MethodName)) ∈ WS := tb_1 (List.mem_of_getElem? (i := 225) (by decide +kernel)) (by decide +kernel)
theorem mw_227 : (Cond.instanceMethod ({ cls := "SoupOrHorses", name := "refuse", desc := "(I)I" } : Jvm.MethodName)) ∈ WS := tb_1 (List.mem_of_getElem? (i := 227) (by decide +kernel)) (by decide +kernel)
theorem lv_X9_69 : LV RX9 69 mX9_refuse 1 := ⟨lc_X9_refuse, mw_225, mw_227, ms_1⟩
theorem mw_231 : (Cond.selects "SoupOrHorses$Shelf" ({ cls := "SoupOrHorses$Shelf", name := "putRow", desc := "(II)V" } : Jvm.MethodName) ({ cls := "SoupOrHorses$Shelf", name := "putRow", desc := "(II)V" } : Jvm.MethodName)) ∈ WS := tb_1 (List.mem_of_getElem? (i := 231) (by decide +kernel)) (by decide +kernel)
theorem mw_229 : (Cond.methodLink "SoupOrHorses" (73 : Nat) ({ cls := "SoupOrHorses$Shelf", name := "putRow", desc := "(II)V" } : Jvm.MethodName)) ∈ WS := tb_1 (List.mem_of_getElem? (i := 229) (by decide +kernel)) (by decide +kernel)
theorem mw_230 : (Cond.instanceMethod ({ cls := "SoupOrHorses$Shelf", name := "putRow", desc := "(II)V" } : Jvm.MethodName)) ∈ WS := tb_1 (List.mem_of_getElem? (i := 230) (by decide +kernel)) (by decide +kernel)
theorem lv_X9_73 : LV RX9 73 mX7_putRow 2 := ⟨lc_X7_putRow, mw_229, mw_230, mw_231⟩
theorem mw_233 : (Cond.methodLink "SoupOrHorses$Shelf" (29 : Nat) ({ cls := "java/lang/Math", name := "min", desc := "(II)I" } : Jvm.MethodName)) ∈ WS := tb_1 (List.mem_of_getElem? (i := 233) (by decide +kernel)) (by decide +kernel)
theorem mw_234 : (Cond.static ({ cls := "java/lang/Math", name := "min", desc := "(II)I" } : Jvm.MethodName)) ∈ WS := tb_1 (List.mem_of_getElem? (i := 234) (by decide +kernel)) (by decide +kernel)
theorem ls_X7_29 : LSt RX7 29 mJ9_min_7cf53 2 := ⟨lc_J9_min_7cf53, mw_233, mw_234⟩
theorem mw_236 : (Cond.methodLink "SoupOrHorses$Shelf" (35 : Nat) ({ cls := "java/lang/Math", name := "max", desc := "(II)I" } : Jvm.MethodName)) ∈ WS := tb_1 (List.mem_of_getElem? (i := 236) (by decide +kernel)) (by decide +kernel)
theorem mw_237 : (Cond.static ({ cls := "java/lang/Math", name := "max", desc := "(II)I" } : Jvm.MethodName)) ∈ WS := tb_1 (List.mem_of_getElem? (i := 237) (by decide +kernel)) (by decide +kernel)
theorem ls_X7_35 : LSt RX7 35 mJ9_max_7cf53 2 := ⟨lc_J9_max_7cf53, mw_236, mw_237⟩
theorem mw_239 : (Cond.methodLink "SoupOrHorses$Shelf" (38 : Nat) ({ cls := "java/util/Arrays", name := "fill", desc := "([JJ)V" } : Jvm.MethodName)) ∈ WS := tb_1 (List.mem_of_getElem? (i := 239) (by decide +kernel)) (by decide +kernel)
theorem mw_240 : (Cond.static ({ cls := "java/util/Arrays", name := "fill", desc := "([JJ)V" } : Jvm.MethodName)) ∈ WS := tb_2 (List.mem_of_getElem? (i := 0) (by decide +kernel)) (by decide +kernel)
theorem ls_X7_38 : LSt RX7 38 mJ7_fill_d0a16 2 := ⟨lc_J7_fill_d0a16, mw_239, mw_240⟩
theorem mw_244 : (Cond.selects "SoupOrHorses" ({ cls := "SoupOrHorses", name := "set", desc := "(IIJ)I" } : Jvm.MethodName) ({ cls := "SoupOrHorses", name := "set", desc := "(IIJ)I" } : Jvm.MethodName)) ∈ WS := tb_2 (List.mem_of_getElem? (i := 4) (by decide +kernel)) (by decide +kernel)
theorem mw_242 : (Cond.methodLink "SoupOrHorsesLaw" (20 : Nat) ({ cls := "SoupOrHorses", name := "set", desc := "(IIJ)I" } : Jvm.MethodName)) ∈ WS := tb_2 (List.mem_of_getElem? (i := 2) (by decide +kernel)) (by decide +kernel)
theorem mw_243 : (Cond.instanceMethod ({ cls := "SoupOrHorses", name := "set", desc := "(IIJ)I" } : Jvm.MethodName)) ∈ WS := tb_2 (List.mem_of_getElem? (i := 3) (by decide +kernel)) (by decide +kernel)
theorem lv_L_20 : LV RL 20 mX9_set 3 := ⟨lc_X9_set, mw_242, mw_243, mw_244⟩
theorem mw_248 : (Cond.selects "SoupOrHorses$Shelf" ({ cls := "SoupOrHorses$Shelf", name := "whyNoRow", desc := "()I" } : Jvm.MethodName) ({ cls := "SoupOrHorses$Shelf", name := "whyNoRow", desc := "()I" } : Jvm.MethodName)) ∈ WS := tb_2 (List.mem_of_getElem? (i := 8) (by decide +kernel)) (by decide +kernel)
theorem mw_246 : (Cond.methodLink "SoupOrHorses" (77 : Nat) ({ cls := "SoupOrHorses$Shelf", name := "whyNoRow", desc := "()I" } : Jvm.MethodName)) ∈ WS := tb_2 (List.mem_of_getElem? (i := 6) (by decide +kernel)) (by decide +kernel)
theorem mw_247 : (Cond.instanceMethod ({ cls := "SoupOrHorses$Shelf", name := "whyNoRow", desc := "()I" } : Jvm.MethodName)) ∈ WS := tb_2 (List.mem_of_getElem? (i := 7) (by decide +kernel)) (by decide +kernel)
theorem lv_X9_77 : LV RX9 77 mX7_whyNoRow 0 := ⟨lc_X7_whyNoRow, mw_246, mw_247, mw_248⟩
theorem mw_252 : (Cond.selects "SoupOrHorses$Shelf" ({ cls := "SoupOrHorses$Shelf", name := "hasRow", desc := "()Z" } : Jvm.MethodName) ({ cls := "SoupOrHorses$Shelf", name := "hasRow", desc := "()Z" } : Jvm.MethodName)) ∈ WS := tb_2 (List.mem_of_getElem? (i := 12) (by decide +kernel)) (by decide +kernel)
theorem mw_250 : (Cond.methodLink "SoupOrHorses$Shelf" (22 : Nat) ({ cls := "SoupOrHorses$Shelf", name := "hasRow", desc := "()Z" } : Jvm.MethodName)) ∈ WS := tb_2 (List.mem_of_getElem? (i := 10) (by decide +kernel)) (by decide +kernel)
theorem mw_251 : (Cond.instanceMethod ({ cls := "SoupOrHorses$Shelf", name := "hasRow", desc := "()Z" } : Jvm.MethodName)) ∈ WS := tb_2 (List.mem_of_getElem? (i := 11) (by decide +kernel)) (by decide +kernel)
theorem lv_X7_22 : LV RX7 22 mX7_hasRow 0 := ⟨lc_X7_hasRow, mw_250, mw_251, mw_252⟩
theorem mw_256 : (Cond.selects "SoupOrHorses$Shelf" ({ cls := "SoupOrHorses$Shelf", name := "hasEar", desc := "()Z" } : Jvm.MethodName) ({ cls := "SoupOrHorses$Shelf", name := "hasEar", desc := "()Z" } : Jvm.MethodName)) ∈ WS := tb_2 (List.mem_of_getElem? (i := 16) (by decide +kernel)) (by decide +kernel)
theorem mw_254 : (Cond.methodLink "SoupOrHorses$Shelf" (26 : Nat) ({ cls := "SoupOrHorses$Shelf", name := "hasEar", desc := "()Z" } : Jvm.MethodName)) ∈ WS := tb_2 (List.mem_of_getElem? (i := 14) (by decide +kernel)) (by decide +kernel)
theorem mw_255 : (Cond.instanceMethod ({ cls := "SoupOrHorses$Shelf", name := "hasEar", desc := "()Z" } : Jvm.MethodName)) ∈ WS := tb_2 (List.mem_of_getElem? (i := 15) (by decide +kernel)) (by decide +kernel)
theorem lv_X7_26 : LV RX7 26 mX7_hasEar 0 := ⟨lc_X7_hasEar, mw_254, mw_255, mw_256⟩
theorem mw_260 : (Cond.selects "SoupOrHorses$Shelf" ({ cls := "SoupOrHorses$Shelf", name := "hasPlaces", desc := "(II)Z" } : Jvm.MethodName) ({ cls := "SoupOrHorses$Shelf", name := "hasPlaces", desc := "(II)Z" } : Jvm.MethodName)) ∈ WS := tb_2 (List.mem_of_getElem? (i := 20) (by decide +kernel)) (by decide +kernel)
theorem mw_258 : (Cond.methodLink "SoupOrHorses" (81 : Nat) ({ cls := "SoupOrHorses$Shelf", name := "hasPlaces", desc := "(II)Z" } : Jvm.MethodName)) ∈ WS := tb_2 (List.mem_of_getElem? (i := 18) (by decide +kernel)) (by decide +kernel)
theorem mw_259 : (Cond.instanceMethod ({ cls := "SoupOrHorses$Shelf", name := "hasPlaces", desc := "(II)Z" } : Jvm.MethodName)) ∈ WS := tb_2 (List.mem_of_getElem? (i := 19) (by decide +kernel)) (by decide +kernel)
theorem lv_X9_81 : LV RX9 81 mX7_hasPlaces 2 := ⟨lc_X7_hasPlaces, mw_258, mw_259, mw_260⟩
theorem mw_264 : (Cond.selects "SoupOrHorses$Shelf" ({ cls := "SoupOrHorses$Shelf", name := "putElement", desc := "(IJ)V" } : Jvm.MethodName) ({ cls := "SoupOrHorses$Shelf", name := "putElement", desc := "(IJ)V" } : Jvm.MethodName)) ∈ WS := tb_2 (List.mem_of_getElem? (i := 24) (by decide +kernel)) (by decide +kernel)
theorem mw_262 : (Cond.methodLink "SoupOrHorses" (85 : Nat) ({ cls := "SoupOrHorses$Shelf", name := "putElement", desc := "(IJ)V" } : Jvm.MethodName)) ∈ WS := tb_2 (List.mem_of_getElem? (i := 22) (by decide +kernel)) (by decide +kernel)
theorem mw_263 : (Cond.instanceMethod ({ cls := "SoupOrHorses$Shelf", name := "putElement", desc := "(IJ)V" } : Jvm.MethodName)) ∈ WS := tb_2 (List.mem_of_getElem? (i := 23) (by decide +kernel)) (by decide +kernel)
theorem lv_X9_85 : LV RX9 85 mX7_putElement 2 := ⟨lc_X7_putElement, mw_262, mw_263, mw_264⟩
theorem mw_266 : (Cond.methodLink "SoupOrHorses$Shelf" (59 : Nat) ({ cls := "SoupOrHorses$Shelf", name := "hasPlaces", desc := "(II)Z" } : Jvm.MethodName)) ∈ WS := tb_2 (List.mem_of_getElem? (i := 26) (by decide +kernel)) (by decide +kernel)
theorem lv_X7_59 : LV RX7 59 mX7_hasPlaces 2 := ⟨lc_X7_hasPlaces, mw_266, mw_259, mw_260⟩
theorem ms_2 : Cond.selects yX7_lowestBits.cls yX7_lowestBits yX7_lowestBits ∈ WS := WS_of (List.mem_append_left _ (List.mem_of_getElem? (i := 2) (by decide +kernel))) (by decide +kernel)
theorem mw_267 : (Cond.methodLink "SoupOrHorses$Shelf" (63 : Nat) ({ cls := "SoupOrHorses$Shelf", name := "lowestBits", desc := "(J)J" } : Jvm.MethodName)) ∈ WS := tb_2 (List.mem_of_getElem? (i := 27) (by decide +kernel)) (by decide +kernel)
theorem mw_269 : (Cond.instanceMethod ({ cls := "SoupOrHorses$Shelf", name := "lowestBits", desc := "(J)J" } : Jvm.MethodName)) ∈ WS := tb_2 (List.mem_of_getElem? (i := 29) (by decide +kernel)) (by decide +kernel)
theorem lv_X7_63 : LV RX7 63 mX7_lowestBits 1 := ⟨lc_X7_lowestBits, mw_267, mw_269, ms_2⟩
theorem mw_273 : (Cond.selects "SoupOrHorses" ({ cls := "SoupOrHorses", name := "copy", desc := "(IIIII)I" } : Jvm.MethodName) ({ cls := "SoupOrHorses", name := "copy", desc := "(IIIII)I" } : Jvm.MethodName)) ∈ WS := tb_2 (List.mem_of_getElem? (i := 33) (by decide +kernel)) (by decide +kernel)
theorem mw_271 : (Cond.methodLink "SoupOrHorsesLaw" (25 : Nat) ({ cls := "SoupOrHorses", name := "copy", desc := "(IIIII)I" } : Jvm.MethodName)) ∈ WS := tb_2 (List.mem_of_getElem? (i := 31) (by decide +kernel)) (by decide +kernel)
theorem mw_272 : (Cond.instanceMethod ({ cls := "SoupOrHorses", name := "copy", desc := "(IIIII)I" } : Jvm.MethodName)) ∈ WS := tb_2 (List.mem_of_getElem? (i := 32) (by decide +kernel)) (by decide +kernel)
theorem lv_L_25 : LV RL 25 mX9_copy 5 := ⟨lc_X9_copy, mw_271, mw_272, mw_273⟩
theorem mw_275 : (Cond.methodLink "SoupOrHorses" (89 : Nat) ({ cls := "SoupOrHorses$Shelf", name := "hasEar", desc := "()Z" } : Jvm.MethodName)) ∈ WS := tb_2 (List.mem_of_getElem? (i := 35) (by decide +kernel)) (by decide +kernel)
theorem lv_X9_89 : LV RX9 89 mX7_hasEar 0 := ⟨lc_X7_hasEar, mw_275, mw_255, mw_256⟩
theorem mw_276 : (Cond.methodLink "SoupOrHorses" (93 : Nat) ({ cls := "SoupOrHorses$Shelf", name := "hasRow", desc := "()Z" } : Jvm.MethodName)) ∈ WS := tb_2 (List.mem_of_getElem? (i := 36) (by decide +kernel)) (by decide +kernel)
theorem lv_X9_93 : LV RX9 93 mX7_hasRow 0 := ⟨lc_X7_hasRow, mw_276, mw_251, mw_252⟩
theorem mw_279 : (Cond.selects "SoupOrHorses$Shelf" ({ cls := "SoupOrHorses$Shelf", name := "takeElements", desc := "(LSoupOrHorses$Shelf;III)V" } : Jvm.MethodName) ({ cls := "SoupOrHorses$Shelf", name := "takeElements", desc := "(LSoupOrHorses$Shelf;III)V" } : Jvm.MethodName)) ∈ WS := tb_2 (List.mem_of_getElem? (i := 39) (by decide +kernel)) (by decide +kernel)
theorem mw_277 : (Cond.methodLink "SoupOrHorses" (100 : Nat) ({ cls := "SoupOrHorses$Shelf", name := "takeElements", desc := "(LSoupOrHorses$Shelf;III)V" } : Jvm.MethodName)) ∈ WS := tb_2 (List.mem_of_getElem? (i := 37) (by decide +kernel)) (by decide +kernel)
theorem mw_278 : (Cond.instanceMethod ({ cls := "SoupOrHorses$Shelf", name := "takeElements", desc := "(LSoupOrHorses$Shelf;III)V" } : Jvm.MethodName)) ∈ WS := tb_2 (List.mem_of_getElem? (i := 38) (by decide +kernel)) (by decide +kernel)
theorem lv_X9_100 : LV RX9 100 mX7_takeElements 4 := ⟨lc_X7_takeElements, mw_277, mw_278, mw_279⟩
theorem mw_286 : (Cond.selects "SoupOrHorses" ({ cls := "SoupOrHorses", name := "element", desc := "(II)J" } : Jvm.MethodName) ({ cls := "SoupOrHorses", name := "element", desc := "(II)J" } : Jvm.MethodName)) ∈ WS := tb_2 (List.mem_of_getElem? (i := 46) (by decide +kernel)) (by decide +kernel)
theorem mw_284 : (Cond.methodLink "SoupOrHorsesLaw" (30 : Nat) ({ cls := "SoupOrHorses", name := "element", desc := "(II)J" } : Jvm.MethodName)) ∈ WS := tb_2 (List.mem_of_getElem? (i := 44) (by decide +kernel)) (by decide +kernel)
theorem mw_285 : (Cond.instanceMethod ({ cls := "SoupOrHorses", name := "element", desc := "(II)J" } : Jvm.MethodName)) ∈ WS := tb_2 (List.mem_of_getElem? (i := 45) (by decide +kernel)) (by decide +kernel)
theorem lv_L_30 : LV RL 30 mX9_element 2 := ⟨lc_X9_element, mw_284, mw_285, mw_286⟩
theorem mw_290 : (Cond.selects "SoupOrHorses$Shelf" ({ cls := "SoupOrHorses$Shelf", name := "elementAt", desc := "(I)J" } : Jvm.MethodName) ({ cls := "SoupOrHorses$Shelf", name := "elementAt", desc := "(I)J" } : Jvm.MethodName)) ∈ WS := tb_2 (List.mem_of_getElem? (i := 50) (by decide +kernel)) (by decide +kernel)
theorem mw_288 : (Cond.methodLink "SoupOrHorses" (104 : Nat) ({ cls := "SoupOrHorses$Shelf", name := "elementAt", desc := "(I)J" } : Jvm.MethodName)) ∈ WS := tb_2 (List.mem_of_getElem? (i := 48) (by decide +kernel)) (by decide +kernel)
theorem mw_289 : (Cond.instanceMethod ({ cls := "SoupOrHorses$Shelf", name := "elementAt", desc := "(I)J" } : Jvm.MethodName)) ∈ WS := tb_2 (List.mem_of_getElem? (i := 49) (by decide +kernel)) (by decide +kernel)
theorem lv_X9_104 : LV RX9 104 mX7_elementAt 1 := ⟨lc_X7_elementAt, mw_288, mw_289, mw_290⟩
theorem mw_294 : (Cond.selects "SoupOrHorses" ({ cls := "SoupOrHorses", name := "holds", desc := "(I)I" } : Jvm.MethodName) ({ cls := "SoupOrHorses", name := "holds", desc := "(I)I" } : Jvm.MethodName)) ∈ WS := tb_2 (List.mem_of_getElem? (i := 54) (by decide +kernel)) (by decide +kernel)
theorem mw_292 : (Cond.methodLink "SoupOrHorsesLaw" (35 : Nat) ({ cls := "SoupOrHorses", name := "holds", desc := "(I)I" } : Jvm.MethodName)) ∈ WS := tb_2 (List.mem_of_getElem? (i := 52) (by decide +kernel)) (by decide +kernel)
theorem mw_293 : (Cond.instanceMethod ({ cls := "SoupOrHorses", name := "holds", desc := "(I)I" } : Jvm.MethodName)) ∈ WS := tb_2 (List.mem_of_getElem? (i := 53) (by decide +kernel)) (by decide +kernel)
theorem lv_L_35 : LV RL 35 mX9_holds 1 := ⟨lc_X9_holds, mw_292, mw_293, mw_294⟩
theorem mw_298 : (Cond.selects "SoupOrHorses" ({ cls := "SoupOrHorses", name := "show", desc := "(II)I" } : Jvm.MethodName) ({ cls := "SoupOrHorses", name := "show", desc := "(II)I" } : Jvm.MethodName)) ∈ WS := tb_2 (List.mem_of_getElem? (i := 58) (by decide +kernel)) (by decide +kernel)
theorem mw_296 : (Cond.methodLink "SoupOrHorsesLaw" (40 : Nat) ({ cls := "SoupOrHorses", name := "show", desc := "(II)I" } : Jvm.MethodName)) ∈ WS := tb_2 (List.mem_of_getElem? (i := 56) (by decide +kernel)) (by decide +kernel)
theorem mw_297 : (Cond.instanceMethod ({ cls := "SoupOrHorses", name := "show", desc := "(II)I" } : Jvm.MethodName)) ∈ WS := tb_2 (List.mem_of_getElem? (i := 57) (by decide +kernel)) (by decide +kernel)
theorem lv_L_40 : LV RL 40 mX9_show 2 := ⟨lc_X9_show, mw_296, mw_297, mw_298⟩
theorem mw_302 : (Cond.selects "SoupOrHorses$Camp" ({ cls := "SoupOrHorses$Camp", name := "isEar", desc := "(I)Z" } : Jvm.MethodName) ({ cls := "SoupOrHorses$Camp", name := "isEar", desc := "(I)Z" } : Jvm.MethodName)) ∈ WS := tb_2 (List.mem_of_getElem? (i := 62) (by decide +kernel)) (by decide +kernel)
theorem mw_300 : (Cond.methodLink "SoupOrHorses" (108 : Nat) ({ cls := "SoupOrHorses$Camp", name := "isEar", desc := "(I)Z" } : Jvm.MethodName)) ∈ WS := tb_2 (List.mem_of_getElem? (i := 60) (by decide +kernel)) (by decide +kernel)
theorem mw_301 : (Cond.instanceMethod ({ cls := "SoupOrHorses$Camp", name := "isEar", desc := "(I)Z" } : Jvm.MethodName)) ∈ WS := tb_2 (List.mem_of_getElem? (i := 61) (by decide +kernel)) (by decide +kernel)
theorem lv_X9_108 : LV RX9 108 mX0_isEar 1 := ⟨lc_X0_isEar, mw_300, mw_301, mw_302⟩
theorem mw_306 : (Cond.selects "SoupOrHorses$Shelf" ({ cls := "SoupOrHorses$Shelf", name := "clear", desc := "()V" } : Jvm.MethodName) ({ cls := "SoupOrHorses$Shelf", name := "clear", desc := "()V" } : Jvm.MethodName)) ∈ WS := tb_2 (List.mem_of_getElem? (i := 66) (by decide +kernel)) (by decide +kernel)
theorem mw_304 : (Cond.methodLink "SoupOrHorses" (112 : Nat) ({ cls := "SoupOrHorses$Shelf", name := "clear", desc := "()V" } : Jvm.MethodName)) ∈ WS := tb_2 (List.mem_of_getElem? (i := 64) (by decide +kernel)) (by decide +kernel)
theorem mw_305 : (Cond.instanceMethod ({ cls := "SoupOrHorses$Shelf", name := "clear", desc := "()V" } : Jvm.MethodName)) ∈ WS := tb_2 (List.mem_of_getElem? (i := 65) (by decide +kernel)) (by decide +kernel)
theorem lv_X9_112 : LV RX9 112 mX7_clear 0 := ⟨lc_X7_clear, mw_304, mw_305, mw_306⟩
theorem mw_310 : (Cond.selects "SoupOrHorses$Shelf" ({ cls := "SoupOrHorses$Shelf", name := "putEar", desc := "(I)V" } : Jvm.MethodName) ({ cls := "SoupOrHorses$Shelf", name := "putEar", desc := "(I)V" } : Jvm.MethodName)) ∈ WS := tb_2 (List.mem_of_getElem? (i := 70) (by decide +kernel)) (by decide +kernel)
theorem mw_308 : (Cond.methodLink "SoupOrHorses" (115 : Nat) ({ cls := "SoupOrHorses$Shelf", name := "putEar", desc := "(I)V" } : Jvm.MethodName)) ∈ WS := tb_2 (List.mem_of_getElem? (i := 68) (by decide +kernel)) (by decide +kernel)
theorem mw_309 : (Cond.instanceMethod ({ cls := "SoupOrHorses$Shelf", name := "putEar", desc := "(I)V" } : Jvm.MethodName)) ∈ WS := tb_2 (List.mem_of_getElem? (i := 69) (by decide +kernel)) (by decide +kernel)
theorem lv_X9_115 : LV RX9 115 mX7_putEar 1 := ⟨lc_X7_putEar, mw_308, mw_309, mw_310⟩
theorem mw_314 : (Cond.selects "SoupOrHorses" ({ cls := "SoupOrHorses", name := "says", desc := "(II)I" } : Jvm.MethodName) ({ cls := "SoupOrHorses", name := "says", desc := "(II)I" } : Jvm.MethodName)) ∈ WS := tb_2 (List.mem_of_getElem? (i := 74) (by decide +kernel)) (by decide +kernel)
theorem mw_312 : (Cond.methodLink "SoupOrHorsesLaw" (45 : Nat) ({ cls := "SoupOrHorses", name := "says", desc := "(II)I" } : Jvm.MethodName)) ∈ WS := tb_2 (List.mem_of_getElem? (i := 72) (by decide +kernel)) (by decide +kernel)
theorem mw_313 : (Cond.instanceMethod ({ cls := "SoupOrHorses", name := "says", desc := "(II)I" } : Jvm.MethodName)) ∈ WS := tb_2 (List.mem_of_getElem? (i := 73) (by decide +kernel)) (by decide +kernel)
theorem lv_L_45 : LV RL 45 mX9_says 2 := ⟨lc_X9_says, mw_312, mw_313, mw_314⟩
theorem mw_316 : (Cond.methodLink "SoupOrHorses" (119 : Nat) ({ cls := "SoupOrHorses$Kind", name := "isKind", desc := "(I)Z" } : Jvm.MethodName)) ∈ WS := tb_2 (List.mem_of_getElem? (i := 76) (by decide +kernel)) (by decide +kernel)
theorem mw_317 : (Cond.static ({ cls := "SoupOrHorses$Kind", name := "isKind", desc := "(I)Z" } : Jvm.MethodName)) ∈ WS := tb_2 (List.mem_of_getElem? (i := 77) (by decide +kernel)) (by decide +kernel)
theorem ls_X9_119 : LSt RX9 119 mX3_isKind 1 := ⟨lc_X3_isKind, mw_316, mw_317⟩
theorem mw_321 : (Cond.selects "SoupOrHorses$Shelf" ({ cls := "SoupOrHorses$Shelf", name := "earNumber", desc := "()I" } : Jvm.MethodName) ({ cls := "SoupOrHorses$Shelf", name := "earNumber", desc := "()I" } : Jvm.MethodName)) ∈ WS := tb_2 (List.mem_of_getElem? (i := 81) (by decide +kernel)) (by decide +kernel)
theorem mw_319 : (Cond.methodLink "SoupOrHorses" (124 : Nat) ({ cls := "SoupOrHorses$Shelf", name := "earNumber", desc := "()I" } : Jvm.MethodName)) ∈ WS := tb_2 (List.mem_of_getElem? (i := 79) (by decide +kernel)) (by decide +kernel)
theorem mw_320 : (Cond.instanceMethod ({ cls := "SoupOrHorses$Shelf", name := "earNumber", desc := "()I" } : Jvm.MethodName)) ∈ WS := tb_2 (List.mem_of_getElem? (i := 80) (by decide +kernel)) (by decide +kernel)
theorem lv_X9_124 : LV RX9 124 mX7_earNumber 0 := ⟨lc_X7_earNumber, mw_319, mw_320, mw_321⟩
theorem mw_325 : (Cond.selects "SoupOrHorses$Camp" ({ cls := "SoupOrHorses$Camp", name := "kindOf", desc := "(I)I" } : Jvm.MethodName) ({ cls := "SoupOrHorses$Camp", name := "kindOf", desc := "(I)I" } : Jvm.MethodName)) ∈ WS := tb_2 (List.mem_of_getElem? (i := 85) (by decide +kernel)) (by decide +kernel)
theorem mw_323 : (Cond.methodLink "SoupOrHorses" (127 : Nat) ({ cls := "SoupOrHorses$Camp", name := "kindOf", desc := "(I)I" } : Jvm.MethodName)) ∈ WS := tb_2 (List.mem_of_getElem? (i := 83) (by decide +kernel)) (by decide +kernel)
theorem mw_324 : (Cond.instanceMethod ({ cls := "SoupOrHorses$Camp", name := "kindOf", desc := "(I)I" } : Jvm.MethodName)) ∈ WS := tb_2 (List.mem_of_getElem? (i := 84) (by decide +kernel)) (by decide +kernel)
theorem lv_X9_127 : LV RX9 127 mX0_kindOf 1 := ⟨lc_X0_kindOf, mw_323, mw_324, mw_325⟩
theorem mw_327 : (Cond.methodLink "SoupOrHorses" (130 : Nat) ({ cls := "SoupOrHorses$Kind", name := "isUnder", desc := "(II)Z" } : Jvm.MethodName)) ∈ WS := tb_2 (List.mem_of_getElem? (i := 87) (by decide +kernel)) (by decide +kernel)
theorem mw_328 : (Cond.static ({ cls := "SoupOrHorses$Kind", name := "isUnder", desc := "(II)Z" } : Jvm.MethodName)) ∈ WS := tb_2 (List.mem_of_getElem? (i := 88) (by decide +kernel)) (by decide +kernel)
theorem ls_X9_130 : LSt RX9 130 mX3_isUnder 2 := ⟨lc_X3_isUnder, mw_327, mw_328⟩
theorem mw_332 : (Cond.selects "SoupOrHorses$Camp" ({ cls := "SoupOrHorses$Camp", name := "strengthOf", desc := "(I)I" } : Jvm.MethodName) ({ cls := "SoupOrHorses$Camp", name := "strengthOf", desc := "(I)I" } : Jvm.MethodName)) ∈ WS := tb_2 (List.mem_of_getElem? (i := 92) (by decide +kernel)) (by decide +kernel)
theorem mw_330 : (Cond.methodLink "SoupOrHorses" (133 : Nat) ({ cls := "SoupOrHorses$Camp", name := "strengthOf", desc := "(I)I" } : Jvm.MethodName)) ∈ WS := tb_2 (List.mem_of_getElem? (i := 90) (by decide +kernel)) (by decide +kernel)
theorem mw_331 : (Cond.instanceMethod ({ cls := "SoupOrHorses$Camp", name := "strengthOf", desc := "(I)I" } : Jvm.MethodName)) ∈ WS := tb_2 (List.mem_of_getElem? (i := 91) (by decide +kernel)) (by decide +kernel)
theorem lv_X9_133 : LV RX9 133 mX0_strengthOf 1 := ⟨lc_X0_strengthOf, mw_330, mw_331, mw_332⟩
theorem mw_334 : (Cond.methodLink "SoupOrHorses" (136 : Nat) ({ cls := "SoupOrHorses$Kind", name := "tellOf", desc := "(III)I" } : Jvm.MethodName)) ∈ WS := tb_2 (List.mem_of_getElem? (i := 94) (by decide +kernel)) (by decide +kernel)
theorem mw_335 : (Cond.static ({ cls := "SoupOrHorses$Kind", name := "tellOf", desc := "(III)I" } : Jvm.MethodName)) ∈ WS := tb_2 (List.mem_of_getElem? (i := 95) (by decide +kernel)) (by decide +kernel)
theorem ls_X9_136 : LSt RX9 136 mX3_tellOf 3 := ⟨lc_X3_tellOf, mw_334, mw_335⟩
theorem mw_337 : (Cond.methodLink "SoupOrHorses$Kind" (11 : Nat) ({ cls := "SoupOrHorses$Kind", name := "countTornAway", desc := "(II)I" } : Jvm.MethodName)) ∈ WS := tb_2 (List.mem_of_getElem? (i := 97) (by decide +kernel)) (by decide +kernel)
theorem mw_338 : (Cond.static ({ cls := "SoupOrHorses$Kind", name := "countTornAway", desc := "(II)I" } : Jvm.MethodName)) ∈ WS := tb_2 (List.mem_of_getElem? (i := 98) (by decide +kernel)) (by decide +kernel)
theorem ls_X3_11 : LSt RX3 11 mX3_countTornAway 2 := ⟨lc_X3_countTornAway, mw_337, mw_338⟩
theorem mw_340 : (Cond.methodLink "SoupOrHorses$Kind" (23 : Nat) ({ cls := "SoupOrHorses$Kind", name := "isTornAway", desc := "(IIII)Z" } : Jvm.MethodName)) ∈ WS := tb_2 (List.mem_of_getElem? (i := 100) (by decide +kernel)) (by decide +kernel)
theorem mw_341 : (Cond.static ({ cls := "SoupOrHorses$Kind", name := "isTornAway", desc := "(IIII)Z" } : Jvm.MethodName)) ∈ WS := tb_2 (List.mem_of_getElem? (i := 101) (by decide +kernel)) (by decide +kernel)
theorem ls_X3_23 : LSt RX3 23 mX3_isTornAway 4 := ⟨lc_X3_isTornAway, mw_340, mw_341⟩
theorem mw_343 : (Cond.methodLink "SoupOrHorses$Kind" (15 : Nat) ({ cls := "SoupOrHorses$Kind", name := "changedNote", desc := "(II)I" } : Jvm.MethodName)) ∈ WS := tb_2 (List.mem_of_getElem? (i := 103) (by decide +kernel)) (by decide +kernel)
theorem mw_344 : (Cond.static ({ cls := "SoupOrHorses$Kind", name := "changedNote", desc := "(II)I" } : Jvm.MethodName)) ∈ WS := tb_2 (List.mem_of_getElem? (i := 104) (by decide +kernel)) (by decide +kernel)
theorem ls_X3_15 : LSt RX3 15 mX3_changedNote 2 := ⟨lc_X3_changedNote, mw_343, mw_344⟩
theorem mw_346 : (Cond.methodLink "SoupOrHorses$Kind" (18 : Nat) ({ cls := "SoupOrHorses$Kind", name := "countEchoed", desc := "(II)I" } : Jvm.MethodName)) ∈ WS := tb_2 (List.mem_of_getElem? (i := 106) (by decide +kernel)) (by decide +kernel)
theorem mw_347 : (Cond.static ({ cls := "SoupOrHorses$Kind", name := "countEchoed", desc := "(II)I" } : Jvm.MethodName)) ∈ WS := tb_2 (List.mem_of_getElem? (i := 107) (by decide +kernel)) (by decide +kernel)
theorem ls_X3_18 : LSt RX3 18 mX3_countEchoed 2 := ⟨lc_X3_countEchoed, mw_346, mw_347⟩
theorem mw_349 : (Cond.methodLink "SoupOrHorses$Kind" (27 : Nat) ({ cls := "SoupOrHorses$Kind", name := "isEchoed", desc := "(III)Z" } : Jvm.MethodName)) ∈ WS := tb_2 (List.mem_of_getElem? (i := 109) (by decide +kernel)) (by decide +kernel)
theorem mw_350 : (Cond.static ({ cls := "SoupOrHorses$Kind", name := "isEchoed", desc := "(III)Z" } : Jvm.MethodName)) ∈ WS := tb_2 (List.mem_of_getElem? (i := 110) (by decide +kernel)) (by decide +kernel)
theorem ls_X3_27 : LSt RX3 27 mX3_isEchoed 3 := ⟨lc_X3_isEchoed, mw_349, mw_350⟩
theorem mw_354 : (Cond.selects "SoupOrHorses" ({ cls := "SoupOrHorses", name := "call", desc := "(IIII)I" } : Jvm.MethodName) ({ cls := "SoupOrHorses", name := "call", desc := "(IIII)I" } : Jvm.MethodName)) ∈ WS := tb_2 (List.mem_of_getElem? (i := 114) (by decide +kernel)) (by decide +kernel)
theorem mw_352 : (Cond.methodLink "SoupOrHorsesLaw" (49 : Nat) ({ cls := "SoupOrHorses", name := "call", desc := "(IIII)I" } : Jvm.MethodName)) ∈ WS := tb_2 (List.mem_of_getElem? (i := 112) (by decide +kernel)) (by decide +kernel)
theorem mw_353 : (Cond.instanceMethod ({ cls := "SoupOrHorses", name := "call", desc := "(IIII)I" } : Jvm.MethodName)) ∈ WS := tb_2 (List.mem_of_getElem? (i := 113) (by decide +kernel)) (by decide +kernel)
theorem lv_L_49 : LV RL 49 mX9_call 4 := ⟨lc_X9_call, mw_352, mw_353, mw_354⟩
theorem mw_356 : (Cond.methodLink "SoupOrHorses" (140 : Nat) ({ cls := "SoupOrHorses$Camp", name := "isUse", desc := "(I)Z" } : Jvm.MethodName)) ∈ WS := tb_2 (List.mem_of_getElem? (i := 116) (by decide +kernel)) (by decide +kernel)
theorem mw_357 : (Cond.static ({ cls := "SoupOrHorses$Camp", name := "isUse", desc := "(I)Z" } : Jvm.MethodName)) ∈ WS := tb_2 (List.mem_of_getElem? (i := 117) (by decide +kernel)) (by decide +kernel)
theorem ls_X9_140 : LSt RX9 140 mX0_isUse 1 := ⟨lc_X0_isUse, mw_356, mw_357⟩
theorem mw_359 : (Cond.methodLink "SoupOrHorses" (143 : Nat) ({ cls := "SoupOrHorses$Camp", name := "isCost", desc := "(I)Z" } : Jvm.MethodName)) ∈ WS := tb_2 (List.mem_of_getElem? (i := 119) (by decide +kernel)) (by decide +kernel)
theorem mw_360 : (Cond.static ({ cls := "SoupOrHorses$Camp", name := "isCost", desc := "(I)Z" } : Jvm.MethodName)) ∈ WS := tb_2 (List.mem_of_getElem? (i := 120) (by decide +kernel)) (by decide +kernel)
theorem ls_X9_143 : LSt RX9 143 mX0_isCost 1 := ⟨lc_X0_isCost, mw_359, mw_360⟩
theorem mw_364 : (Cond.selects "SoupOrHorses$Shelf" ({ cls := "SoupOrHorses$Shelf", name := "startsWithNotes", desc := "(I)Z" } : Jvm.MethodName) ({ cls := "SoupOrHorses$Shelf", name := "startsWithNotes", desc := "(I)Z" } : Jvm.MethodName)) ∈ WS := tb_2 (List.mem_of_getElem? (i := 124) (by decide +kernel)) (by decide +kernel)
theorem mw_362 : (Cond.methodLink "SoupOrHorses" (149 : Nat) ({ cls := "SoupOrHorses$Shelf", name := "startsWithNotes", desc := "(I)Z" } : Jvm.MethodName)) ∈ WS := tb_2 (List.mem_of_getElem? (i := 122) (by decide +kernel)) (by decide +kernel)
theorem mw_363 : (Cond.instanceMethod ({ cls := "SoupOrHorses$Shelf", name := "startsWithNotes", desc := "(I)Z" } : Jvm.MethodName)) ∈ WS := tb_2 (List.mem_of_getElem? (i := 123) (by decide +kernel)) (by decide +kernel)
theorem lv_X9_149 : LV RX9 149 mX7_startsWithNotes 1 := ⟨lc_X7_startsWithNotes, mw_362, mw_363, mw_364⟩
theorem mw_366 : (Cond.methodLink "SoupOrHorses$Shelf" (73 : Nat) ({ cls := "SoupOrHorses$Shelf", name := "elementAt", desc := "(I)J" } : Jvm.MethodName)) ∈ WS := tb_2 (List.mem_of_getElem? (i := 126) (by decide +kernel)) (by decide +kernel)
theorem lv_X7_73 : LV RX7 73 mX7_elementAt 1 := ⟨lc_X7_elementAt, mw_366, mw_289, mw_290⟩
theorem mw_367 : (Cond.methodLink "SoupOrHorses$Shelf" (77 : Nat) ({ cls := "SoupOrHorses$Camp", name := "isNote", desc := "(J)Z" } : Jvm.MethodName)) ∈ WS := tb_2 (List.mem_of_getElem? (i := 127) (by decide +kernel)) (by decide +kernel)
theorem mw_368 : (Cond.static ({ cls := "SoupOrHorses$Camp", name := "isNote", desc := "(J)Z" } : Jvm.MethodName)) ∈ WS := tb_2 (List.mem_of_getElem? (i := 128) (by decide +kernel)) (by decide +kernel)
theorem ls_X7_77 : LSt RX7 77 mX0_isNote 1 := ⟨lc_X0_isNote, mw_367, mw_368⟩
theorem mw_373 : (Cond.selects "SoupOrHorses$Camp" ({ cls := "SoupOrHorses$Camp", name := "hasRoomForCall", desc := "()Z" } : Jvm.MethodName) ({ cls := "SoupOrHorses$Camp", name := "hasRoomForCall", desc := "()Z" } : Jvm.MethodName)) ∈ WS := tb_2 (List.mem_of_getElem? (i := 133) (by decide +kernel)) (by decide +kernel)
theorem mw_371 : (Cond.methodLink "SoupOrHorses" (152 : Nat) ({ cls := "SoupOrHorses$Camp", name := "hasRoomForCall", desc := "()Z" } : Jvm.MethodName)) ∈ WS := tb_2 (List.mem_of_getElem? (i := 131) (by decide +kernel)) (by decide +kernel)
theorem mw_372 : (Cond.instanceMethod ({ cls := "SoupOrHorses$Camp", name := "hasRoomForCall", desc := "()Z" } : Jvm.MethodName)) ∈ WS := tb_2 (List.mem_of_getElem? (i := 132) (by decide +kernel)) (by decide +kernel)
theorem lv_X9_152 : LV RX9 152 mX0_hasRoomForCall 0 := ⟨lc_X0_hasRoomForCall, mw_371, mw_372, mw_373⟩
theorem mw_377 : (Cond.selects "SoupOrHorses$Camp" ({ cls := "SoupOrHorses$Camp", name := "addCall", desc := "(II)I" } : Jvm.MethodName) ({ cls := "SoupOrHorses$Camp", name := "addCall", desc := "(II)I" } : Jvm.MethodName)) ∈ WS := tb_2 (List.mem_of_getElem? (i := 137) (by decide +kernel)) (by decide +kernel)
theorem mw_375 : (Cond.methodLink "SoupOrHorses" (155 : Nat) ({ cls := "SoupOrHorses$Camp", name := "addCall", desc := "(II)I" } : Jvm.MethodName)) ∈ WS := tb_2 (List.mem_of_getElem? (i := 135) (by decide +kernel)) (by decide +kernel)
theorem mw_376 : (Cond.instanceMethod ({ cls := "SoupOrHorses$Camp", name := "addCall", desc := "(II)I" } : Jvm.MethodName)) ∈ WS := tb_2 (List.mem_of_getElem? (i := 136) (by decide +kernel)) (by decide +kernel)
theorem lv_X9_155 : LV RX9 155 mX0_addCall 2 := ⟨lc_X0_addCall, mw_375, mw_376, mw_377⟩
theorem mw_381 : (Cond.selects "SoupOrHorses$Camp" ({ cls := "SoupOrHorses$Camp", name := "addNote", desc := "(I)V" } : Jvm.MethodName) ({ cls := "SoupOrHorses$Camp", name := "addNote", desc := "(I)V" } : Jvm.MethodName)) ∈ WS := tb_2 (List.mem_of_getElem? (i := 141) (by decide +kernel)) (by decide +kernel)
theorem mw_379 : (Cond.methodLink "SoupOrHorses" (159 : Nat) ({ cls := "SoupOrHorses$Camp", name := "addNote", desc := "(I)V" } : Jvm.MethodName)) ∈ WS := tb_2 (List.mem_of_getElem? (i := 139) (by decide +kernel)) (by decide +kernel)
theorem mw_380 : (Cond.instanceMethod ({ cls := "SoupOrHorses$Camp", name := "addNote", desc := "(I)V" } : Jvm.MethodName)) ∈ WS := tb_2 (List.mem_of_getElem? (i := 140) (by decide +kernel)) (by decide +kernel)
theorem lv_X9_159 : LV RX9 159 mX0_addNote 1 := ⟨lc_X0_addNote, mw_379, mw_380, mw_381⟩
theorem mw_383 : (Cond.methodLink "SoupOrHorses$Camp" (63 : Nat) ({ cls := "SoupOrHorses$Camp", name := "packedNote", desc := "(II)I" } : Jvm.MethodName)) ∈ WS := tb_2 (List.mem_of_getElem? (i := 143) (by decide +kernel)) (by decide +kernel)
theorem mw_384 : (Cond.static ({ cls := "SoupOrHorses$Camp", name := "packedNote", desc := "(II)I" } : Jvm.MethodName)) ∈ WS := tb_2 (List.mem_of_getElem? (i := 144) (by decide +kernel)) (by decide +kernel)
theorem ls_X0_63 : LSt RX0 63 mX0_packedNote 2 := ⟨lc_X0_packedNote, mw_383, mw_384⟩
theorem mw_388 : (Cond.selects "SoupOrHorses" ({ cls := "SoupOrHorses", name := "ear", desc := "(II)I" } : Jvm.MethodName) ({ cls := "SoupOrHorses", name := "ear", desc := "(II)I" } : Jvm.MethodName)) ∈ WS := tb_2 (List.mem_of_getElem? (i := 148) (by decide +kernel)) (by decide +kernel)
theorem mw_386 : (Cond.methodLink "SoupOrHorsesLaw" (54 : Nat) ({ cls := "SoupOrHorses", name := "ear", desc := "(II)I" } : Jvm.MethodName)) ∈ WS := tb_2 (List.mem_of_getElem? (i := 146) (by decide +kernel)) (by decide +kernel)
theorem mw_387 : (Cond.instanceMethod ({ cls := "SoupOrHorses", name := "ear", desc := "(II)I" } : Jvm.MethodName)) ∈ WS := tb_2 (List.mem_of_getElem? (i := 147) (by decide +kernel)) (by decide +kernel)
theorem lv_L_54 : LV RL 54 mX9_ear 2 := ⟨lc_X9_ear, mw_386, mw_387, mw_388⟩
theorem mw_390 : (Cond.methodLink "SoupOrHorses" (162 : Nat) ({ cls := "SoupOrHorses$Kind", name := "isStrength", desc := "(I)Z" } : Jvm.MethodName)) ∈ WS := tb_2 (List.mem_of_getElem? (i := 150) (by decide +kernel)) (by decide +kernel)
theorem mw_391 : (Cond.static ({ cls := "SoupOrHorses$Kind", name := "isStrength", desc := "(I)Z" } : Jvm.MethodName)) ∈ WS := tb_2 (List.mem_of_getElem? (i := 151) (by decide +kernel)) (by decide +kernel)
theorem ls_X9_162 : LSt RX9 162 mX3_isStrength 1 := ⟨lc_X3_isStrength, mw_390, mw_391⟩
theorem mw_395 : (Cond.selects "SoupOrHorses$Camp" ({ cls := "SoupOrHorses$Camp", name := "hasRoomForEar", desc := "()Z" } : Jvm.MethodName) ({ cls := "SoupOrHorses$Camp", name := "hasRoomForEar", desc := "()Z" } : Jvm.MethodName)) ∈ WS := tb_2 (List.mem_of_getElem? (i := 155) (by decide +kernel)) (by decide +kernel)
theorem mw_393 : (Cond.methodLink "SoupOrHorses" (165 : Nat) ({ cls := "SoupOrHorses$Camp", name := "hasRoomForEar", desc := "()Z" } : Jvm.MethodName)) ∈ WS := tb_2 (List.mem_of_getElem? (i := 153) (by decide +kernel)) (by decide +kernel)
theorem mw_394 : (Cond.instanceMethod ({ cls := "SoupOrHorses$Camp", name := "hasRoomForEar", desc := "()Z" } : Jvm.MethodName)) ∈ WS := tb_2 (List.mem_of_getElem? (i := 154) (by decide +kernel)) (by decide +kernel)
theorem lv_X9_165 : LV RX9 165 mX0_hasRoomForEar 0 := ⟨lc_X0_hasRoomForEar, mw_393, mw_394, mw_395⟩
theorem mw_399 : (Cond.selects "SoupOrHorses$Camp" ({ cls := "SoupOrHorses$Camp", name := "addEar", desc := "(II)I" } : Jvm.MethodName) ({ cls := "SoupOrHorses$Camp", name := "addEar", desc := "(II)I" } : Jvm.MethodName)) ∈ WS := tb_2 (List.mem_of_getElem? (i := 159) (by decide +kernel)) (by decide +kernel)
theorem mw_397 : (Cond.methodLink "SoupOrHorses" (168 : Nat) ({ cls := "SoupOrHorses$Camp", name := "addEar", desc := "(II)I" } : Jvm.MethodName)) ∈ WS := tb_2 (List.mem_of_getElem? (i := 157) (by decide +kernel)) (by decide +kernel)
theorem mw_398 : (Cond.instanceMethod ({ cls := "SoupOrHorses$Camp", name := "addEar", desc := "(II)I" } : Jvm.MethodName)) ∈ WS := tb_2 (List.mem_of_getElem? (i := 158) (by decide +kernel)) (by decide +kernel)
theorem lv_X9_168 : LV RX9 168 mX0_addEar 2 := ⟨lc_X0_addEar, mw_397, mw_398, mw_399⟩
theorem mw_403 : (Cond.selects "SoupOrHorses" ({ cls := "SoupOrHorses", name := "man", desc := "(II)I" } : Jvm.MethodName) ({ cls := "SoupOrHorses", name := "man", desc := "(II)I" } : Jvm.MethodName)) ∈ WS := tb_2 (List.mem_of_getElem? (i := 163) (by decide +kernel)) (by decide +kernel)
theorem mw_401 : (Cond.methodLink "SoupOrHorsesLaw" (58 : Nat) ({ cls := "SoupOrHorses", name := "man", desc := "(II)I" } : Jvm.MethodName)) ∈ WS := tb_2 (List.mem_of_getElem? (i := 161) (by decide +kernel)) (by decide +kernel)
theorem mw_402 : (Cond.instanceMethod ({ cls := "SoupOrHorses", name := "man", desc := "(II)I" } : Jvm.MethodName)) ∈ WS := tb_2 (List.mem_of_getElem? (i := 162) (by decide +kernel)) (by decide +kernel)
theorem lv_L_58 : LV RL 58 mX9_man 2 := ⟨lc_X9_man, mw_401, mw_402, mw_403⟩
theorem mw_405 : (Cond.methodLink "SoupOrHorses" (171 : Nat) ({ cls := "SoupOrHorses$Camp", name := "isLook", desc := "(I)Z" } : Jvm.MethodName)) ∈ WS := tb_2 (List.mem_of_getElem? (i := 165) (by decide +kernel)) (by decide +kernel)
theorem mw_406 : (Cond.static ({ cls := "SoupOrHorses$Camp", name := "isLook", desc := "(I)Z" } : Jvm.MethodName)) ∈ WS := tb_2 (List.mem_of_getElem? (i := 166) (by decide +kernel)) (by decide +kernel)
theorem ls_X9_171 : LSt RX9 171 mX0_isLook 1 := ⟨lc_X0_isLook, mw_405, mw_406⟩
theorem mw_410 : (Cond.selects "SoupOrHorses$Camp" ({ cls := "SoupOrHorses$Camp", name := "hasRoomForMan", desc := "()Z" } : Jvm.MethodName) ({ cls := "SoupOrHorses$Camp", name := "hasRoomForMan", desc := "()Z" } : Jvm.MethodName)) ∈ WS := tb_2 (List.mem_of_getElem? (i := 170) (by decide +kernel)) (by decide +kernel)
theorem mw_408 : (Cond.methodLink "SoupOrHorses" (174 : Nat) ({ cls := "SoupOrHorses$Camp", name := "hasRoomForMan", desc := "()Z" } : Jvm.MethodName)) ∈ WS := tb_2 (List.mem_of_getElem? (i := 168) (by decide +kernel)) (by decide +kernel)
theorem mw_409 : (Cond.instanceMethod ({ cls := "SoupOrHorses$Camp", name := "hasRoomForMan", desc := "()Z" } : Jvm.MethodName)) ∈ WS := tb_2 (List.mem_of_getElem? (i := 169) (by decide +kernel)) (by decide +kernel)
theorem lv_X9_174 : LV RX9 174 mX0_hasRoomForMan 0 := ⟨lc_X0_hasRoomForMan, mw_408, mw_409, mw_410⟩
theorem mw_414 : (Cond.selects "SoupOrHorses$Camp" ({ cls := "SoupOrHorses$Camp", name := "addMan", desc := "(II)I" } : Jvm.MethodName) ({ cls := "SoupOrHorses$Camp", name := "addMan", desc := "(II)I" } : Jvm.MethodName)) ∈ WS := tb_2 (List.mem_of_getElem? (i := 174) (by decide +kernel)) (by decide +kernel)
theorem mw_412 : (Cond.methodLink "SoupOrHorses" (177 : Nat) ({ cls := "SoupOrHorses$Camp", name := "addMan", desc := "(II)I" } : Jvm.MethodName)) ∈ WS := tb_2 (List.mem_of_getElem? (i := 172) (by decide +kernel)) (by decide +kernel)
theorem mw_413 : (Cond.instanceMethod ({ cls := "SoupOrHorses$Camp", name := "addMan", desc := "(II)I" } : Jvm.MethodName)) ∈ WS := tb_2 (List.mem_of_getElem? (i := 173) (by decide +kernel)) (by decide +kernel)
theorem lv_X9_177 : LV RX9 177 mX0_addMan 2 := ⟨lc_X0_addMan, mw_412, mw_413, mw_414⟩
theorem mw_418 : (Cond.selects "SoupOrHorses" ({ cls := "SoupOrHorses", name := "tell", desc := "(III)I" } : Jvm.MethodName) ({ cls := "SoupOrHorses", name := "tell", desc := "(III)I" } : Jvm.MethodName)) ∈ WS := tb_2 (List.mem_of_getElem? (i := 178) (by decide +kernel)) (by decide +kernel)
theorem mw_416 : (Cond.methodLink "SoupOrHorsesLaw" (62 : Nat) ({ cls := "SoupOrHorses", name := "tell", desc := "(III)I" } : Jvm.MethodName)) ∈ WS := tb_2 (List.mem_of_getElem? (i := 176) (by decide +kernel)) (by decide +kernel)
theorem mw_417 : (Cond.instanceMethod ({ cls := "SoupOrHorses", name := "tell", desc := "(III)I" } : Jvm.MethodName)) ∈ WS := tb_2 (List.mem_of_getElem? (i := 177) (by decide +kernel)) (by decide +kernel)
theorem lv_L_62 : LV RL 62 mX9_tell 3 := ⟨lc_X9_tell, mw_416, mw_417, mw_418⟩
theorem mw_422 : (Cond.selects "SoupOrHorses$Camp" ({ cls := "SoupOrHorses$Camp", name := "isCall", desc := "(I)Z" } : Jvm.MethodName) ({ cls := "SoupOrHorses$Camp", name := "isCall", desc := "(I)Z" } : Jvm.MethodName)) ∈ WS := tb_2 (List.mem_of_getElem? (i := 182) (by decide +kernel)) (by decide +kernel)
theorem mw_420 : (Cond.methodLink "SoupOrHorses" (180 : Nat) ({ cls := "SoupOrHorses$Camp", name := "isCall", desc := "(I)Z" } : Jvm.MethodName)) ∈ WS := tb_2 (List.mem_of_getElem? (i := 180) (by decide +kernel)) (by decide +kernel)
theorem mw_421 : (Cond.instanceMethod ({ cls := "SoupOrHorses$Camp", name := "isCall", desc := "(I)Z" } : Jvm.MethodName)) ∈ WS := tb_2 (List.mem_of_getElem? (i := 181) (by decide +kernel)) (by decide +kernel)
theorem lv_X9_180 : LV RX9 180 mX0_isCall 1 := ⟨lc_X0_isCall, mw_420, mw_421, mw_422⟩
theorem mw_426 : (Cond.selects "SoupOrHorses$Camp" ({ cls := "SoupOrHorses$Camp", name := "changeUse", desc := "(II)I" } : Jvm.MethodName) ({ cls := "SoupOrHorses$Camp", name := "changeUse", desc := "(II)I" } : Jvm.MethodName)) ∈ WS := tb_2 (List.mem_of_getElem? (i := 186) (by decide +kernel)) (by decide +kernel)
theorem mw_424 : (Cond.methodLink "SoupOrHorses" (183 : Nat) ({ cls := "SoupOrHorses$Camp", name := "changeUse", desc := "(II)I" } : Jvm.MethodName)) ∈ WS := tb_2 (List.mem_of_getElem? (i := 184) (by decide +kernel)) (by decide +kernel)
theorem mw_425 : (Cond.instanceMethod ({ cls := "SoupOrHorses$Camp", name := "changeUse", desc := "(II)I" } : Jvm.MethodName)) ∈ WS := tb_2 (List.mem_of_getElem? (i := 185) (by decide +kernel)) (by decide +kernel)
theorem lv_X9_183 : LV RX9 183 mX0_changeUse 2 := ⟨lc_X0_changeUse, mw_424, mw_425, mw_426⟩
theorem mw_430 : (Cond.selects "SoupOrHorses$Camp" ({ cls := "SoupOrHorses$Camp", name := "useOf", desc := "(I)I" } : Jvm.MethodName) ({ cls := "SoupOrHorses$Camp", name := "useOf", desc := "(I)I" } : Jvm.MethodName)) ∈ WS := tb_2 (List.mem_of_getElem? (i := 190) (by decide +kernel)) (by decide +kernel)
theorem mw_428 : (Cond.methodLink "SoupOrHorses$Camp" (75 : Nat) ({ cls := "SoupOrHorses$Camp", name := "useOf", desc := "(I)I" } : Jvm.MethodName)) ∈ WS := tb_2 (List.mem_of_getElem? (i := 188) (by decide +kernel)) (by decide +kernel)
theorem mw_429 : (Cond.instanceMethod ({ cls := "SoupOrHorses$Camp", name := "useOf", desc := "(I)I" } : Jvm.MethodName)) ∈ WS := tb_2 (List.mem_of_getElem? (i := 189) (by decide +kernel)) (by decide +kernel)
theorem lv_X0_75 : LV RX0 75 mX0_useOf 1 := ⟨lc_X0_useOf, mw_428, mw_429, mw_430⟩
theorem mw_434 : (Cond.selects "SoupOrHorses$Camp" ({ cls := "SoupOrHorses$Camp", name := "changeCost", desc := "(II)I" } : Jvm.MethodName) ({ cls := "SoupOrHorses$Camp", name := "changeCost", desc := "(II)I" } : Jvm.MethodName)) ∈ WS := tb_2 (List.mem_of_getElem? (i := 194) (by decide +kernel)) (by decide +kernel)
theorem mw_432 : (Cond.methodLink "SoupOrHorses" (186 : Nat) ({ cls := "SoupOrHorses$Camp", name := "changeCost", desc := "(II)I" } : Jvm.MethodName)) ∈ WS := tb_2 (List.mem_of_getElem? (i := 192) (by decide +kernel)) (by decide +kernel)
theorem mw_433 : (Cond.instanceMethod ({ cls := "SoupOrHorses$Camp", name := "changeCost", desc := "(II)I" } : Jvm.MethodName)) ∈ WS := tb_2 (List.mem_of_getElem? (i := 193) (by decide +kernel)) (by decide +kernel)
theorem lv_X9_186 : LV RX9 186 mX0_changeCost 2 := ⟨lc_X0_changeCost, mw_432, mw_433, mw_434⟩
theorem mw_438 : (Cond.selects "SoupOrHorses$Camp" ({ cls := "SoupOrHorses$Camp", name := "costOf", desc := "(I)I" } : Jvm.MethodName) ({ cls := "SoupOrHorses$Camp", name := "costOf", desc := "(I)I" } : Jvm.MethodName)) ∈ WS := tb_2 (List.mem_of_getElem? (i := 198) (by decide +kernel)) (by decide +kernel)
theorem mw_436 : (Cond.methodLink "SoupOrHorses$Camp" (78 : Nat) ({ cls := "SoupOrHorses$Camp", name := "costOf", desc := "(I)I" } : Jvm.MethodName)) ∈ WS := tb_2 (List.mem_of_getElem? (i := 196) (by decide +kernel)) (by decide +kernel)
theorem mw_437 : (Cond.instanceMethod ({ cls := "SoupOrHorses$Camp", name := "costOf", desc := "(I)I" } : Jvm.MethodName)) ∈ WS := tb_2 (List.mem_of_getElem? (i := 197) (by decide +kernel)) (by decide +kernel)
theorem lv_X0_78 : LV RX0 78 mX0_costOf 1 := ⟨lc_X0_costOf, mw_436, mw_437, mw_438⟩
theorem mw_442 : (Cond.selects "SoupOrHorses" ({ cls := "SoupOrHorses", name := "ask", desc := "(II)I" } : Jvm.MethodName) ({ cls := "SoupOrHorses", name := "ask", desc := "(II)I" } : Jvm.MethodName)) ∈ WS := tb_2 (List.mem_of_getElem? (i := 202) (by decide +kernel)) (by decide +kernel)
theorem mw_440 : (Cond.methodLink "SoupOrHorsesLaw" (66 : Nat) ({ cls := "SoupOrHorses", name := "ask", desc := "(II)I" } : Jvm.MethodName)) ∈ WS := tb_2 (List.mem_of_getElem? (i := 200) (by decide +kernel)) (by decide +kernel)
theorem mw_441 : (Cond.instanceMethod ({ cls := "SoupOrHorses", name := "ask", desc := "(II)I" } : Jvm.MethodName)) ∈ WS := tb_2 (List.mem_of_getElem? (i := 201) (by decide +kernel)) (by decide +kernel)
theorem lv_L_66 : LV RL 66 mX9_ask 2 := ⟨lc_X9_ask, mw_440, mw_441, mw_442⟩
theorem mw_444 : (Cond.methodLink "SoupOrHorses" (189 : Nat) ({ cls := "SoupOrHorses$Camp", name := "isSure", desc := "(I)Z" } : Jvm.MethodName)) ∈ WS := tb_2 (List.mem_of_getElem? (i := 204) (by decide +kernel)) (by decide +kernel)
theorem mw_445 : (Cond.static ({ cls := "SoupOrHorses$Camp", name := "isSure", desc := "(I)Z" } : Jvm.MethodName)) ∈ WS := tb_2 (List.mem_of_getElem? (i := 205) (by decide +kernel)) (by decide +kernel)
theorem ls_X9_189 : LSt RX9 189 mX0_isSure 1 := ⟨lc_X0_isSure, mw_444, mw_445⟩
theorem mw_447 : (Cond.methodLink "SoupOrHorses" (195 : Nat) ({ cls := "SoupOrHorses$Camp", name := "isLost", desc := "(I)Z" } : Jvm.MethodName)) ∈ WS := tb_2 (List.mem_of_getElem? (i := 207) (by decide +kernel)) (by decide +kernel)
theorem mw_448 : (Cond.static ({ cls := "SoupOrHorses$Camp", name := "isLost", desc := "(I)Z" } : Jvm.MethodName)) ∈ WS := tb_2 (List.mem_of_getElem? (i := 208) (by decide +kernel)) (by decide +kernel)
theorem ls_X9_195 : LSt RX9 195 mX0_isLost 1 := ⟨lc_X0_isLost, mw_447, mw_448⟩
theorem mw_452 : (Cond.selects "SoupOrHorses" ({ cls := "SoupOrHorses", name := "feed", desc := "(I)I" } : Jvm.MethodName) ({ cls := "SoupOrHorses", name := "feed", desc := "(I)I" } : Jvm.MethodName)) ∈ WS := tb_2 (List.mem_of_getElem? (i := 212) (by decide +kernel)) (by decide +kernel)
theorem mw_450 : (Cond.methodLink "SoupOrHorsesLaw" (70 : Nat) ({ cls := "SoupOrHorses", name := "feed", desc := "(I)I" } : Jvm.MethodName)) ∈ WS := tb_2 (List.mem_of_getElem? (i := 210) (by decide +kernel)) (by decide +kernel)
theorem mw_451 : (Cond.instanceMethod ({ cls := "SoupOrHorses", name := "feed", desc := "(I)I" } : Jvm.MethodName)) ∈ WS := tb_2 (List.mem_of_getElem? (i := 211) (by decide +kernel)) (by decide +kernel)
theorem lv_L_70 : LV RL 70 mX9_feed 1 := ⟨lc_X9_feed, mw_450, mw_451, mw_452⟩
theorem mw_456 : (Cond.selects "SoupOrHorses$Tape" ({ cls := "SoupOrHorses$Tape", name := "hasRoom", desc := "()Z" } : Jvm.MethodName) ({ cls := "SoupOrHorses$Tape", name := "hasRoom", desc := "()Z" } : Jvm.MethodName)) ∈ WS := tb_2 (List.mem_of_getElem? (i := 216) (by decide +kernel)) (by decide +kernel)
theorem mw_454 : (Cond.methodLink "SoupOrHorses" (201 : Nat) ({ cls := "SoupOrHorses$Tape", name := "hasRoom", desc := "()Z" } : Jvm.MethodName)) ∈ WS := tb_2 (List.mem_of_getElem? (i := 214) (by decide +kernel)) (by decide +kernel)
theorem mw_455 : (Cond.instanceMethod ({ cls := "SoupOrHorses$Tape", name := "hasRoom", desc := "()Z" } : Jvm.MethodName)) ∈ WS := tb_2 (List.mem_of_getElem? (i := 215) (by decide +kernel)) (by decide +kernel)
theorem lv_X9_201 : LV RX9 201 mX8_hasRoom 0 := ⟨lc_X8_hasRoom, mw_454, mw_455, mw_456⟩
theorem mw_460 : (Cond.selects "SoupOrHorses$Tape" ({ cls := "SoupOrHorses$Tape", name := "append", desc := "(I)I" } : Jvm.MethodName) ({ cls := "SoupOrHorses$Tape", name := "append", desc := "(I)I" } : Jvm.MethodName)) ∈ WS := tb_2 (List.mem_of_getElem? (i := 220) (by decide +kernel)) (by decide +kernel)
theorem mw_458 : (Cond.methodLink "SoupOrHorses" (204 : Nat) ({ cls := "SoupOrHorses$Tape", name := "append", desc := "(I)I" } : Jvm.MethodName)) ∈ WS := tb_2 (List.mem_of_getElem? (i := 218) (by decide +kernel)) (by decide +kernel)
theorem mw_459 : (Cond.instanceMethod ({ cls := "SoupOrHorses$Tape", name := "append", desc := "(I)I" } : Jvm.MethodName)) ∈ WS := tb_2 (List.mem_of_getElem? (i := 219) (by decide +kernel)) (by decide +kernel)
theorem lv_X9_204 : LV RX9 204 mX8_append 1 := ⟨lc_X8_append, mw_458, mw_459, mw_460⟩
theorem mw_464 : (Cond.selects "SoupOrHorses" ({ cls := "SoupOrHorses", name := "wipe", desc := "()I" } : Jvm.MethodName) ({ cls := "SoupOrHorses", name := "wipe", desc := "()I" } : Jvm.MethodName)) ∈ WS := tb_2 (List.mem_of_getElem? (i := 224) (by decide +kernel)) (by decide +kernel)
theorem mw_462 : (Cond.methodLink "SoupOrHorsesLaw" (74 : Nat) ({ cls := "SoupOrHorses", name := "wipe", desc := "()I" } : Jvm.MethodName)) ∈ WS := tb_2 (List.mem_of_getElem? (i := 222) (by decide +kernel)) (by decide +kernel)
theorem mw_463 : (Cond.instanceMethod ({ cls := "SoupOrHorses", name := "wipe", desc := "()I" } : Jvm.MethodName)) ∈ WS := tb_2 (List.mem_of_getElem? (i := 223) (by decide +kernel)) (by decide +kernel)
theorem lv_L_74 : LV RL 74 mX9_wipe 0 := ⟨lc_X9_wipe, mw_462, mw_463, mw_464⟩
theorem mw_468 : (Cond.selects "SoupOrHorses$Tape" ({ cls := "SoupOrHorses$Tape", name := "empty", desc := "()I" } : Jvm.MethodName) ({ cls := "SoupOrHorses$Tape", name := "empty", desc := "()I" } : Jvm.MethodName)) ∈ WS := tb_2 (List.mem_of_getElem? (i := 228) (by decide +kernel)) (by decide +kernel)
theorem mw_466 : (Cond.methodLink "SoupOrHorses" (207 : Nat) ({ cls := "SoupOrHorses$Tape", name := "empty", desc := "()I" } : Jvm.MethodName)) ∈ WS := tb_2 (List.mem_of_getElem? (i := 226) (by decide +kernel)) (by decide +kernel)
theorem mw_467 : (Cond.instanceMethod ({ cls := "SoupOrHorses$Tape", name := "empty", desc := "()I" } : Jvm.MethodName)) ∈ WS := tb_2 (List.mem_of_getElem? (i := 227) (by decide +kernel)) (by decide +kernel)
theorem lv_X9_207 : LV RX9 207 mX8_empty 0 := ⟨lc_X8_empty, mw_466, mw_467, mw_468⟩
theorem mw_472 : (Cond.selects "SoupOrHorses" ({ cls := "SoupOrHorses", name := "camp", desc := "()I" } : Jvm.MethodName) ({ cls := "SoupOrHorses", name := "camp", desc := "()I" } : Jvm.MethodName)) ∈ WS := tb_2 (List.mem_of_getElem? (i := 232) (by decide +kernel)) (by decide +kernel)
theorem mw_470 : (Cond.methodLink "SoupOrHorsesLaw" (79 : Nat) ({ cls := "SoupOrHorses", name := "camp", desc := "()I" } : Jvm.MethodName)) ∈ WS := tb_2 (List.mem_of_getElem? (i := 230) (by decide +kernel)) (by decide +kernel)
theorem mw_471 : (Cond.instanceMethod ({ cls := "SoupOrHorses", name := "camp", desc := "()I" } : Jvm.MethodName)) ∈ WS := tb_2 (List.mem_of_getElem? (i := 231) (by decide +kernel)) (by decide +kernel)
theorem lv_L_79 : LV RL 79 mX9_camp 0 := ⟨lc_X9_camp, mw_470, mw_471, mw_472⟩
theorem mw_476 : (Cond.selects "SoupOrHorses$Camp" ({ cls := "SoupOrHorses$Camp", name := "takeAll", desc := "(LSoupOrHorses$Camp;)V" } : Jvm.MethodName) ({ cls := "SoupOrHorses$Camp", name := "takeAll", desc := "(LSoupOrHorses$Camp;)V" } : Jvm.MethodName)) ∈ WS := tb_2 (List.mem_of_getElem? (i := 236) (by decide +kernel)) (by decide +kernel)
theorem mw_474 : (Cond.methodLink "SoupOrHorses" (210 : Nat) ({ cls := "SoupOrHorses$Camp", name := "takeAll", desc := "(LSoupOrHorses$Camp;)V" } : Jvm.MethodName)) ∈ WS := tb_2 (List.mem_of_getElem? (i := 234) (by decide +kernel)) (by decide +kernel)
theorem mw_475 : (Cond.instanceMethod ({ cls := "SoupOrHorses$Camp", name := "takeAll", desc := "(LSoupOrHorses$Camp;)V" } : Jvm.MethodName)) ∈ WS := tb_2 (List.mem_of_getElem? (i := 235) (by decide +kernel)) (by decide +kernel)
theorem lv_X9_210 : LV RX9 210 mX0_takeAll 1 := ⟨lc_X0_takeAll, mw_474, mw_475, mw_476⟩
theorem mw_479 : (Cond.methodLink "SoupOrHorses" (214 : Nat) ({ cls := "SoupOrHorses$Reader", name := "readCamp", desc := "(LSoupOrHorses$Tape;LSoupOrHorses$Camp;)I" } : Jvm.MethodName)) ∈ WS := tb_2 (List.mem_of_getElem? (i := 239) (by decide +kernel)) (by decide +kernel)
theorem mw_480 : (Cond.static ({ cls := "SoupOrHorses$Reader", name := "readCamp", desc := "(LSoupOrHorses$Tape;LSoupOrHorses$Camp;)I" } : Jvm.MethodName)) ∈ WS := tb_3 (List.mem_of_getElem? (i := 0) (by decide +kernel)) (by decide +kernel)
theorem ls_X9_214 : LSt RX9 214 mX5_readCamp 2 := ⟨lc_X5_readCamp, mw_479, mw_480⟩
theorem mw_484 : (Cond.selects "SoupOrHorses$Tape" ({ cls := "SoupOrHorses$Tape", name := "toFirstToken", desc := "()V" } : Jvm.MethodName) ({ cls := "SoupOrHorses$Tape", name := "toFirstToken", desc := "()V" } : Jvm.MethodName)) ∈ WS := tb_3 (List.mem_of_getElem? (i := 4) (by decide +kernel)) (by decide +kernel)
theorem mw_482 : (Cond.methodLink "SoupOrHorses$Reader" (7 : Nat) ({ cls := "SoupOrHorses$Tape", name := "toFirstToken", desc := "()V" } : Jvm.MethodName)) ∈ WS := tb_3 (List.mem_of_getElem? (i := 2) (by decide +kernel)) (by decide +kernel)
theorem mw_483 : (Cond.instanceMethod ({ cls := "SoupOrHorses$Tape", name := "toFirstToken", desc := "()V" } : Jvm.MethodName)) ∈ WS := tb_3 (List.mem_of_getElem? (i := 3) (by decide +kernel)) (by decide +kernel)
theorem lv_X5_7 : LV RX5 7 mX8_toFirstToken 0 := ⟨lc_X8_toFirstToken, mw_482, mw_483, mw_484⟩
theorem mw_488 : (Cond.selects "SoupOrHorses$Tape" ({ cls := "SoupOrHorses$Tape", name := "toNextToken", desc := "()V" } : Jvm.MethodName) ({ cls := "SoupOrHorses$Tape", name := "toNextToken", desc := "()V" } : Jvm.MethodName)) ∈ WS := tb_3 (List.mem_of_getElem? (i := 8) (by decide +kernel)) (by decide +kernel)
theorem mw_486 : (Cond.methodLink "SoupOrHorses$Tape" (25 : Nat) ({ cls := "SoupOrHorses$Tape", name := "toNextToken", desc := "()V" } : Jvm.MethodName)) ∈ WS := tb_3 (List.mem_of_getElem? (i := 6) (by decide +kernel)) (by decide +kernel)
theorem mw_487 : (Cond.instanceMethod ({ cls := "SoupOrHorses$Tape", name := "toNextToken", desc := "()V" } : Jvm.MethodName)) ∈ WS := tb_3 (List.mem_of_getElem? (i := 7) (by decide +kernel)) (by decide +kernel)
theorem lv_X8_25 : LV RX8 25 mX8_toNextToken 0 := ⟨lc_X8_toNextToken, mw_486, mw_487, mw_488⟩
theorem ms_3 : Cond.selects yX8_byteAt.cls yX8_byteAt yX8_byteAt ∈ WS := WS_of (List.mem_append_left _ (List.mem_of_getElem? (i := 3) (by decide +kernel))) (by decide +kernel)
theorem mw_490 : (Cond.methodLink "SoupOrHorses$Tape" (28 : Nat) ({ cls := "SoupOrHorses$Tape", name := "byteAt", desc := "(I)I" } : Jvm.MethodName)) ∈ WS := tb_3 (List.mem_of_getElem? (i := 10) (by decide +kernel)) (by decide +kernel)
theorem mw_492 : (Cond.instanceMethod ({ cls := "SoupOrHorses$Tape", name := "byteAt", desc := "(I)I" } : Jvm.MethodName)) ∈ WS := tb_3 (List.mem_of_getElem? (i := 12) (by decide +kernel)) (by decide +kernel)
theorem lv_X8_28 : LV RX8 28 mX8_byteAt 1 := ⟨lc_X8_byteAt, mw_490, mw_492, ms_3⟩
theorem mw_494 : (Cond.methodLink "SoupOrHorses$Tape" (32 : Nat) ({ cls := "SoupOrHorses$Tape", name := "isLetter", desc := "(I)Z" } : Jvm.MethodName)) ∈ WS := tb_3 (List.mem_of_getElem? (i := 14) (by decide +kernel)) (by decide +kernel)
theorem mw_495 : (Cond.static ({ cls := "SoupOrHorses$Tape", name := "isLetter", desc := "(I)Z" } : Jvm.MethodName)) ∈ WS := tb_3 (List.mem_of_getElem? (i := 15) (by decide +kernel)) (by decide +kernel)
theorem ls_X8_32 : LSt RX8 32 mX8_isLetter 1 := ⟨lc_X8_isLetter, mw_494, mw_495⟩
theorem mw_497 : (Cond.methodLink "SoupOrHorses$Tape" (36 : Nat) ({ cls := "SoupOrHorses$Tape", name := "isDigit", desc := "(I)Z" } : Jvm.MethodName)) ∈ WS := tb_3 (List.mem_of_getElem? (i := 17) (by decide +kernel)) (by decide +kernel)
theorem mw_498 : (Cond.static ({ cls := "SoupOrHorses$Tape", name := "isDigit", desc := "(I)Z" } : Jvm.MethodName)) ∈ WS := tb_3 (List.mem_of_getElem? (i := 18) (by decide +kernel)) (by decide +kernel)
theorem ls_X8_36 : LSt RX8 36 mX8_isDigit 1 := ⟨lc_X8_isDigit, mw_497, mw_498⟩
theorem mw_500 : (Cond.methodLink "SoupOrHorses$Reader" (16 : Nat) ({ cls := "SoupOrHorses$Reader", name := "isStatementRead", desc := "(LSoupOrHorses$Tape;LSoupOrHorses$Camp;)Z" } : Jvm.MethodName)) ∈ WS := tb_3 (List.mem_of_getElem? (i := 20) (by decide +kernel)) (by decide +kernel)
theorem mw_501 : (Cond.static ({ cls := "SoupOrHorses$Reader", name := "isStatementRead", desc := "(LSoupOrHorses$Tape;LSoupOrHorses$Camp;)Z" } : Jvm.MethodName)) ∈ WS := tb_3 (List.mem_of_getElem? (i := 21) (by decide +kernel)) (by decide +kernel)
theorem ls_X5_16 : LSt RX5 16 mX5_isStatementRead 2 := ⟨lc_X5_isStatementRead, mw_500, mw_501⟩
theorem mw_506 : (Cond.selects "SoupOrHorses$Tape" ({ cls := "SoupOrHorses$Tape", name := "isAtWord", desc := "(Ljava/lang/String;)Z" } : Jvm.MethodName) ({ cls := "SoupOrHorses$Tape", name := "isAtWord", desc := "(Ljava/lang/String;)Z" } : Jvm.MethodName)) ∈ WS := tb_3 (List.mem_of_getElem? (i := 26) (by decide +kernel)) (by decide +kernel)
theorem mw_504 : (Cond.methodLink "SoupOrHorses$Reader" (37 : Nat) ({ cls := "SoupOrHorses$Tape", name := "isAtWord", desc := "(Ljava/lang/String;)Z" } : Jvm.MethodName)) ∈ WS := tb_3 (List.mem_of_getElem? (i := 24) (by decide +kernel)) (by decide +kernel)
theorem mw_505 : (Cond.instanceMethod ({ cls := "SoupOrHorses$Tape", name := "isAtWord", desc := "(Ljava/lang/String;)Z" } : Jvm.MethodName)) ∈ WS := tb_3 (List.mem_of_getElem? (i := 25) (by decide +kernel)) (by decide +kernel)
theorem lv_X5_37 : LV RX5 37 mX8_isAtWord 1 := ⟨lc_X8_isAtWord, mw_504, mw_505, mw_506⟩
theorem mw_510 : (Cond.selects "java/lang/String" ({ cls := "java/lang/String", name := "length", desc := "()I" } : Jvm.MethodName) ({ cls := "java/lang/String", name := "length", desc := "()I" } : Jvm.MethodName)) ∈ WS := tb_3 (List.mem_of_getElem? (i := 30) (by decide +kernel)) (by decide +kernel)
theorem mw_508 : (Cond.methodLink "SoupOrHorses$Tape" (39 : Nat) ({ cls := "java/lang/String", name := "length", desc := "()I" } : Jvm.MethodName)) ∈ WS := tb_3 (List.mem_of_getElem? (i := 28) (by decide +kernel)) (by decide +kernel)
theorem mw_509 : (Cond.instanceMethod ({ cls := "java/lang/String", name := "length", desc := "()I" } : Jvm.MethodName)) ∈ WS := tb_3 (List.mem_of_getElem? (i := 29) (by decide +kernel)) (by decide +kernel)
theorem lv_X8_39 : LV RX8 39 mJ0_length_8abf5 0 := ⟨lc_J0_length_8abf5, mw_508, mw_509, mw_510⟩
theorem mw_514 : (Cond.selects "java/lang/String" ({ cls := "java/lang/String", name := "coder", desc := "()B" } : Jvm.MethodName) ({ cls := "java/lang/String", name := "coder", desc := "()B" } : Jvm.MethodName)) ∈ WS := tb_3 (List.mem_of_getElem? (i := 34) (by decide +kernel)) (by decide +kernel)
theorem mw_512 : (Cond.methodLink "java/lang/String" (335 : Nat) ({ cls := "java/lang/String", name := "coder", desc := "()B" } : Jvm.MethodName)) ∈ WS := tb_3 (List.mem_of_getElem? (i := 32) (by decide +kernel)) (by decide +kernel)
theorem mw_513 : (Cond.instanceMethod ({ cls := "java/lang/String", name := "coder", desc := "()B" } : Jvm.MethodName)) ∈ WS := tb_3 (List.mem_of_getElem? (i := 33) (by decide +kernel)) (by decide +kernel)
theorem lv_J0_335 : LV RJ0 335 mJ0_coder_7d493 0 := ⟨lc_J0_coder_7d493, mw_512, mw_513, mw_514⟩
theorem mw_520 : (Cond.selects "java/lang/String" ({ cls := "java/lang/String", name := "charAt", desc := "(I)C" } : Jvm.MethodName) ({ cls := "java/lang/String", name := "charAt", desc := "(I)C" } : Jvm.MethodName)) ∈ WS := tb_3 (List.mem_of_getElem? (i := 40) (by decide +kernel)) (by decide +kernel)
theorem mw_518 : (Cond.methodLink "SoupOrHorses$Tape" (45 : Nat) ({ cls := "java/lang/String", name := "charAt", desc := "(I)C" } : Jvm.MethodName)) ∈ WS := tb_3 (List.mem_of_getElem? (i := 38) (by decide +kernel)) (by decide +kernel)
theorem mw_519 : (Cond.instanceMethod ({ cls := "java/lang/String", name := "charAt", desc := "(I)C" } : Jvm.MethodName)) ∈ WS := tb_3 (List.mem_of_getElem? (i := 39) (by decide +kernel)) (by decide +kernel)
theorem lv_X8_45 : LV RX8 45 mJ0_charAt_5068e 1 := ⟨lc_J0_charAt_5068e, mw_518, mw_519, mw_520⟩
theorem mw_524 : (Cond.selects "java/lang/String" ({ cls := "java/lang/String", name := "isLatin1", desc := "()Z" } : Jvm.MethodName) ({ cls := "java/lang/String", name := "isLatin1", desc := "()Z" } : Jvm.MethodName)) ∈ WS := tb_3 (List.mem_of_getElem? (i := 44) (by decide +kernel)) (by decide +kernel)
theorem mw_522 : (Cond.methodLink "java/lang/String" (492 : Nat) ({ cls := "java/lang/String", name := "isLatin1", desc := "()Z" } : Jvm.MethodName)) ∈ WS := tb_3 (List.mem_of_getElem? (i := 42) (by decide +kernel)) (by decide +kernel)
theorem mw_523 : (Cond.instanceMethod ({ cls := "java/lang/String", name := "isLatin1", desc := "()Z" } : Jvm.MethodName)) ∈ WS := tb_3 (List.mem_of_getElem? (i := 43) (by decide +kernel)) (by decide +kernel)
theorem lv_J0_492 : LV RJ0 492 mJ0_isLatin1_aae02 0 := ⟨lc_J0_isLatin1_aae02, mw_522, mw_523, mw_524⟩
theorem mw_526 : (Cond.methodLink "java/lang/String" (495 : Nat) ({ cls := "java/lang/StringLatin1", name := "charAt", desc := "([BI)C" } : Jvm.MethodName)) ∈ WS := tb_3 (List.mem_of_getElem? (i := 46) (by decide +kernel)) (by decide +kernel)
theorem mw_527 : (Cond.static ({ cls := "java/lang/StringLatin1", name := "charAt", desc := "([BI)C" } : Jvm.MethodName)) ∈ WS := tb_3 (List.mem_of_getElem? (i := 47) (by decide +kernel)) (by decide +kernel)
theorem ls_J0_495 : LSt RJ0 495 mJ1_charAt_3b067 2 := ⟨lc_J1_charAt_3b067, mw_526, mw_527⟩
theorem mw_529 : (Cond.methodLink "java/lang/StringLatin1" (9 : Nat) ({ cls := "java/lang/String", name := "checkIndex", desc := "(II)V" } : Jvm.MethodName)) ∈ WS := tb_3 (List.mem_of_getElem? (i := 49) (by decide +kernel)) (by decide +kernel)
theorem mw_530 : (Cond.static ({ cls := "java/lang/String", name := "checkIndex", desc := "(II)V" } : Jvm.MethodName)) ∈ WS := tb_3 (List.mem_of_getElem? (i := 50) (by decide +kernel)) (by decide +kernel)
theorem ls_J1_9 : LSt RJ1 9 mJ0_checkIndex_df160 2 := ⟨lc_J0_checkIndex_df160, mw_529, mw_530⟩
theorem mw_534 : (Cond.methodLink "java/lang/String" (1059 : Nat) ({ cls := "jdk/internal/util/Preconditions", name := "checkIndex", desc := "(IILjava/util/function/BiFunction;)I" } : Jvm.MethodName)) ∈ WS := tb_3 (List.mem_of_getElem? (i := 54) (by decide +kernel)) (by decide +kernel)
theorem mw_535 : (Cond.static ({ cls := "jdk/internal/util/Preconditions", name := "checkIndex", desc := "(IILjava/util/function/BiFunction;)I" } : Jvm.MethodName)) ∈ WS := tb_3 (List.mem_of_getElem? (i := 55) (by decide +kernel)) (by decide +kernel)
theorem ls_J0_1059 : LSt RJ0 1059 mJ3_checkIndex_8e157 3 := ⟨lc_J3_checkIndex_8e157, mw_534, mw_535⟩
theorem mw_537 : (Cond.methodLink "java/lang/String" (498 : Nat) ({ cls := "java/lang/StringUTF16", name := "charAt", desc := "([BI)C" } : Jvm.MethodName)) ∈ WS := tb_3 (List.mem_of_getElem? (i := 57) (by decide +kernel)) (by decide +kernel)
theorem mw_538 : (Cond.static ({ cls := "java/lang/StringUTF16", name := "charAt", desc := "([BI)C" } : Jvm.MethodName)) ∈ WS := tb_3 (List.mem_of_getElem? (i := 58) (by decide +kernel)) (by decide +kernel)
theorem ls_J0_498 : LSt RJ0 498 mJ2_charAt_3b067 2 := ⟨lc_J2_charAt_3b067, mw_537, mw_538⟩
theorem mw_540 : (Cond.methodLink "java/lang/StringUTF16" (67 : Nat) ({ cls := "java/lang/StringUTF16", name := "checkIndex", desc := "(I[B)V" } : Jvm.MethodName)) ∈ WS := tb_3 (List.mem_of_getElem? (i := 60) (by decide +kernel)) (by decide +kernel)
theorem mw_541 : (Cond.static ({ cls := "java/lang/StringUTF16", name := "checkIndex", desc := "(I[B)V" } : Jvm.MethodName)) ∈ WS := tb_3 (List.mem_of_getElem? (i := 61) (by decide +kernel)) (by decide +kernel)
theorem ls_J2_67 : LSt RJ2 67 mJ2_checkIndex_2214a 2 := ⟨lc_J2_checkIndex_2214a, mw_540, mw_541⟩
theorem mw_543 : (Cond.methodLink "java/lang/StringUTF16" (48 : Nat) ({ cls := "java/lang/StringUTF16", name := "length", desc := "([B)I" } : Jvm.MethodName)) ∈ WS := tb_3 (List.mem_of_getElem? (i := 63) (by decide +kernel)) (by decide +kernel)
theorem mw_544 : (Cond.static ({ cls := "java/lang/StringUTF16", name := "length", desc := "([B)I" } : Jvm.MethodName)) ∈ WS := tb_3 (List.mem_of_getElem? (i := 64) (by decide +kernel)) (by decide +kernel)
theorem ls_J2_48 : LSt RJ2 48 mJ2_length_9d52b 1 := ⟨lc_J2_length_9d52b, mw_543, mw_544⟩
theorem mw_546 : (Cond.methodLink "java/lang/StringUTF16" (414 : Nat) ({ cls := "java/lang/String", name := "checkIndex", desc := "(II)V" } : Jvm.MethodName)) ∈ WS := tb_3 (List.mem_of_getElem? (i := 66) (by decide +kernel)) (by decide +kernel)
theorem ls_J2_414 : LSt RJ2 414 mJ0_checkIndex_df160 2 := ⟨lc_J0_checkIndex_df160, mw_546, mw_530⟩
theorem mw_547 : (Cond.methodLink "java/lang/StringUTF16" (71 : Nat) ({ cls := "java/lang/StringUTF16", name := "getChar", desc := "([BI)C" } : Jvm.MethodName)) ∈ WS := tb_3 (List.mem_of_getElem? (i := 67) (by decide +kernel)) (by decide +kernel)
theorem mw_548 : (Cond.static ({ cls := "java/lang/StringUTF16", name := "getChar", desc := "([BI)C" } : Jvm.MethodName)) ∈ WS := tb_3 (List.mem_of_getElem? (i := 68) (by decide +kernel)) (by decide +kernel)
theorem ls_J2_71 : LSt RJ2 71 mJ2_getChar_3b067 2 := ⟨lc_J2_getChar_3b067, mw_547, mw_548⟩
theorem mw_556 : (Cond.methodLink "SoupOrHorses$Reader" (41 : Nat) ({ cls := "SoupOrHorses$Camp", name := "hasRoomForCall", desc := "()Z" } : Jvm.MethodName)) ∈ WS := tb_3 (List.mem_of_getElem? (i := 76) (by decide +kernel)) (by decide +kernel)
theorem lv_X5_41 : LV RX5 41 mX0_hasRoomForCall 0 := ⟨lc_X0_hasRoomForCall, mw_556, mw_372, mw_373⟩
theorem mw_557 : (Cond.methodLink "SoupOrHorses$Reader" (46 : Nat) ({ cls := "SoupOrHorses$Reader", name := "isCallRead", desc := "(LSoupOrHorses$Tape;LSoupOrHorses$Camp;)Z" } : Jvm.MethodName)) ∈ WS := tb_3 (List.mem_of_getElem? (i := 77) (by decide +kernel)) (by decide +kernel)
theorem mw_558 : (Cond.static ({ cls := "SoupOrHorses$Reader", name := "isCallRead", desc := "(LSoupOrHorses$Tape;LSoupOrHorses$Camp;)Z" } : Jvm.MethodName)) ∈ WS := tb_3 (List.mem_of_getElem? (i := 78) (by decide +kernel)) (by decide +kernel)
theorem ls_X5_46 : LSt RX5 46 mX5_isCallRead 2 := ⟨lc_X5_isCallRead, mw_557, mw_558⟩
theorem mw_560 : (Cond.methodLink "SoupOrHorses$Reader" (32 : Nat) ({ cls := "SoupOrHorses$Tape", name := "toNextToken", desc := "()V" } : Jvm.MethodName)) ∈ WS := tb_3 (List.mem_of_getElem? (i := 80) (by decide +kernel)) (by decide +kernel)
theorem lv_X5_32 : LV RX5 32 mX8_toNextToken 0 := ⟨lc_X8_toNextToken, mw_560, mw_487, mw_488⟩
theorem mw_563 : (Cond.selects "SoupOrHorses$Tape" ({ cls := "SoupOrHorses$Tape", name := "countTextNotes", desc := "()I" } : Jvm.MethodName) ({ cls := "SoupOrHorses$Tape", name := "countTextNotes", desc := "()I" } : Jvm.MethodName)) ∈ WS := tb_3 (List.mem_of_getElem? (i := 83) (by decide +kernel)) (by decide +kernel)
theorem mw_561 : (Cond.methodLink "SoupOrHorses$Reader" (80 : Nat) ({ cls := "SoupOrHorses$Tape", name := "countTextNotes", desc := "()I" } : Jvm.MethodName)) ∈ WS := tb_3 (List.mem_of_getElem? (i := 81) (by decide +kernel)) (by decide +kernel)
theorem mw_562 : (Cond.instanceMethod ({ cls := "SoupOrHorses$Tape", name := "countTextNotes", desc := "()I" } : Jvm.MethodName)) ∈ WS := tb_3 (List.mem_of_getElem? (i := 82) (by decide +kernel)) (by decide +kernel)
theorem lv_X5_80 : LV RX5 80 mX8_countTextNotes 0 := ⟨lc_X8_countTextNotes, mw_561, mw_562, mw_563⟩
theorem mw_567 : (Cond.selects "SoupOrHorses$Tape" ({ cls := "SoupOrHorses$Tape", name := "textNote", desc := "(I)I" } : Jvm.MethodName) ({ cls := "SoupOrHorses$Tape", name := "textNote", desc := "(I)I" } : Jvm.MethodName)) ∈ WS := tb_3 (List.mem_of_getElem? (i := 87) (by decide +kernel)) (by decide +kernel)
theorem mw_565 : (Cond.methodLink "SoupOrHorses$Tape" (51 : Nat) ({ cls := "SoupOrHorses$Tape", name := "textNote", desc := "(I)I" } : Jvm.MethodName)) ∈ WS := tb_3 (List.mem_of_getElem? (i := 85) (by decide +kernel)) (by decide +kernel)
theorem mw_566 : (Cond.instanceMethod ({ cls := "SoupOrHorses$Tape", name := "textNote", desc := "(I)I" } : Jvm.MethodName)) ∈ WS := tb_3 (List.mem_of_getElem? (i := 86) (by decide +kernel)) (by decide +kernel)
theorem lv_X8_51 : LV RX8 51 mX8_textNote 1 := ⟨lc_X8_textNote, mw_565, mw_566, mw_567⟩
theorem mw_569 : (Cond.methodLink "SoupOrHorses$Tape" (54 : Nat) ({ cls := "SoupOrHorses$Camp", name := "isNote", desc := "(J)Z" } : Jvm.MethodName)) ∈ WS := tb_3 (List.mem_of_getElem? (i := 89) (by decide +kernel)) (by decide +kernel)
theorem ls_X8_54 : LSt RX8 54 mX0_isNote 1 := ⟨lc_X0_isNote, mw_569, mw_368⟩
theorem mw_570 : (Cond.methodLink "SoupOrHorses$Reader" (84 : Nat) ({ cls := "SoupOrHorses$Camp", name := "addCall", desc := "(II)I" } : Jvm.MethodName)) ∈ WS := tb_3 (List.mem_of_getElem? (i := 90) (by decide +kernel)) (by decide +kernel)
theorem lv_X5_84 : LV RX5 84 mX0_addCall 2 := ⟨lc_X0_addCall, mw_570, mw_376, mw_377⟩
theorem mw_571 : (Cond.methodLink "SoupOrHorses$Reader" (88 : Nat) ({ cls := "SoupOrHorses$Tape", name := "textNote", desc := "(I)I" } : Jvm.MethodName)) ∈ WS := tb_3 (List.mem_of_getElem? (i := 91) (by decide +kernel)) (by decide +kernel)
theorem lv_X5_88 : LV RX5 88 mX8_textNote 1 := ⟨lc_X8_textNote, mw_571, mw_566, mw_567⟩
theorem mw_572 : (Cond.methodLink "SoupOrHorses$Reader" (92 : Nat) ({ cls := "SoupOrHorses$Camp", name := "addNote", desc := "(I)V" } : Jvm.MethodName)) ∈ WS := tb_3 (List.mem_of_getElem? (i := 92) (by decide +kernel)) (by decide +kernel)
theorem lv_X5_92 : LV RX5 92 mX0_addNote 1 := ⟨lc_X0_addNote, mw_572, mw_380, mw_381⟩
theorem mw_575 : (Cond.selects "SoupOrHorses$Tape" ({ cls := "SoupOrHorses$Tape", name := "numberHere", desc := "()I" } : Jvm.MethodName) ({ cls := "SoupOrHorses$Tape", name := "numberHere", desc := "()I" } : Jvm.MethodName)) ∈ WS := tb_3 (List.mem_of_getElem? (i := 95) (by decide +kernel)) (by decide +kernel)
theorem mw_573 : (Cond.methodLink "SoupOrHorses$Reader" (96 : Nat) ({ cls := "SoupOrHorses$Tape", name := "numberHere", desc := "()I" } : Jvm.MethodName)) ∈ WS := tb_3 (List.mem_of_getElem? (i := 93) (by decide +kernel)) (by decide +kernel)
theorem mw_574 : (Cond.instanceMethod ({ cls := "SoupOrHorses$Tape", name := "numberHere", desc := "()I" } : Jvm.MethodName)) ∈ WS := tb_3 (List.mem_of_getElem? (i := 94) (by decide +kernel)) (by decide +kernel)
theorem lv_X5_96 : LV RX5 96 mX8_numberHere 0 := ⟨lc_X8_numberHere, mw_573, mw_574, mw_575⟩
theorem mw_577 : (Cond.methodLink "SoupOrHorses$Reader" (99 : Nat) ({ cls := "SoupOrHorses$Camp", name := "isUse", desc := "(I)Z" } : Jvm.MethodName)) ∈ WS := tb_3 (List.mem_of_getElem? (i := 97) (by decide +kernel)) (by decide +kernel)
theorem ls_X5_99 : LSt RX5 99 mX0_isUse 1 := ⟨lc_X0_isUse, mw_577, mw_357⟩
theorem mw_578 : (Cond.methodLink "SoupOrHorses$Reader" (103 : Nat) ({ cls := "SoupOrHorses$Camp", name := "changeUse", desc := "(II)I" } : Jvm.MethodName)) ∈ WS := tb_3 (List.mem_of_getElem? (i := 98) (by decide +kernel)) (by decide +kernel)
theorem lv_X5_103 : LV RX5 103 mX0_changeUse 2 := ⟨lc_X0_changeUse, mw_578, mw_425, mw_426⟩
theorem mw_579 : (Cond.methodLink "SoupOrHorses$Reader" (106 : Nat) ({ cls := "SoupOrHorses$Camp", name := "isCost", desc := "(I)Z" } : Jvm.MethodName)) ∈ WS := tb_3 (List.mem_of_getElem? (i := 99) (by decide +kernel)) (by decide +kernel)
theorem ls_X5_106 : LSt RX5 106 mX0_isCost 1 := ⟨lc_X0_isCost, mw_579, mw_360⟩
theorem mw_580 : (Cond.methodLink "SoupOrHorses$Reader" (109 : Nat) ({ cls := "SoupOrHorses$Camp", name := "changeCost", desc := "(II)I" } : Jvm.MethodName)) ∈ WS := tb_3 (List.mem_of_getElem? (i := 100) (by decide +kernel)) (by decide +kernel)
theorem lv_X5_109 : LV RX5 109 mX0_changeCost 2 := ⟨lc_X0_changeCost, mw_580, mw_433, mw_434⟩
theorem mw_582 : (Cond.methodLink "SoupOrHorses$Reader" (51 : Nat) ({ cls := "SoupOrHorses$Camp", name := "hasRoomForEar", desc := "()Z" } : Jvm.MethodName)) ∈ WS := tb_3 (List.mem_of_getElem? (i := 102) (by decide +kernel)) (by decide +kernel)
theorem lv_X5_51 : LV RX5 51 mX0_hasRoomForEar 0 := ⟨lc_X0_hasRoomForEar, mw_582, mw_394, mw_395⟩
theorem mw_583 : (Cond.methodLink "SoupOrHorses$Reader" (54 : Nat) ({ cls := "SoupOrHorses$Reader", name := "isEarRead", desc := "(LSoupOrHorses$Tape;LSoupOrHorses$Camp;)Z" } : Jvm.MethodName)) ∈ WS := tb_3 (List.mem_of_getElem? (i := 103) (by decide +kernel)) (by decide +kernel)
theorem mw_584 : (Cond.static ({ cls := "SoupOrHorses$Reader", name := "isEarRead", desc := "(LSoupOrHorses$Tape;LSoupOrHorses$Camp;)Z" } : Jvm.MethodName)) ∈ WS := tb_3 (List.mem_of_getElem? (i := 104) (by decide +kernel)) (by decide +kernel)
theorem ls_X5_54 : LSt RX5 54 mX5_isEarRead 2 := ⟨lc_X5_isEarRead, mw_583, mw_584⟩
theorem mw_586 : (Cond.methodLink "SoupOrHorses$Reader" (112 : Nat) ({ cls := "SoupOrHorses$Kind", name := "isKind", desc := "(I)Z" } : Jvm.MethodName)) ∈ WS := tb_3 (List.mem_of_getElem? (i := 106) (by decide +kernel)) (by decide +kernel)
theorem ls_X5_112 : LSt RX5 112 mX3_isKind 1 := ⟨lc_X3_isKind, mw_586, mw_317⟩
theorem mw_587 : (Cond.methodLink "SoupOrHorses$Reader" (117 : Nat) ({ cls := "SoupOrHorses$Kind", name := "isStrength", desc := "(I)Z" } : Jvm.MethodName)) ∈ WS := tb_3 (List.mem_of_getElem? (i := 107) (by decide +kernel)) (by decide +kernel)
theorem ls_X5_117 : LSt RX5 117 mX3_isStrength 1 := ⟨lc_X3_isStrength, mw_587, mw_391⟩
theorem mw_588 : (Cond.methodLink "SoupOrHorses$Reader" (120 : Nat) ({ cls := "SoupOrHorses$Camp", name := "addEar", desc := "(II)I" } : Jvm.MethodName)) ∈ WS := tb_3 (List.mem_of_getElem? (i := 108) (by decide +kernel)) (by decide +kernel)
theorem lv_X5_120 : LV RX5 120 mX0_addEar 2 := ⟨lc_X0_addEar, mw_588, mw_398, mw_399⟩
theorem mw_590 : (Cond.methodLink "SoupOrHorses$Reader" (59 : Nat) ({ cls := "SoupOrHorses$Camp", name := "hasRoomForMan", desc := "()Z" } : Jvm.MethodName)) ∈ WS := tb_3 (List.mem_of_getElem? (i := 110) (by decide +kernel)) (by decide +kernel)
theorem lv_X5_59 : LV RX5 59 mX0_hasRoomForMan 0 := ⟨lc_X0_hasRoomForMan, mw_590, mw_409, mw_410⟩
theorem mw_591 : (Cond.methodLink "SoupOrHorses$Reader" (62 : Nat) ({ cls := "SoupOrHorses$Reader", name := "isManRead", desc := "(LSoupOrHorses$Tape;LSoupOrHorses$Camp;)Z" } : Jvm.MethodName)) ∈ WS := tb_3 (List.mem_of_getElem? (i := 111) (by decide +kernel)) (by decide +kernel)
theorem mw_592 : (Cond.static ({ cls := "SoupOrHorses$Reader", name := "isManRead", desc := "(LSoupOrHorses$Tape;LSoupOrHorses$Camp;)Z" } : Jvm.MethodName)) ∈ WS := tb_3 (List.mem_of_getElem? (i := 112) (by decide +kernel)) (by decide +kernel)
theorem ls_X5_62 : LSt RX5 62 mX5_isManRead 2 := ⟨lc_X5_isManRead, mw_591, mw_592⟩
theorem mw_594 : (Cond.methodLink "SoupOrHorses$Reader" (123 : Nat) ({ cls := "SoupOrHorses$Camp", name := "isEar", desc := "(I)Z" } : Jvm.MethodName)) ∈ WS := tb_3 (List.mem_of_getElem? (i := 114) (by decide +kernel)) (by decide +kernel)
theorem lv_X5_123 : LV RX5 123 mX0_isEar 1 := ⟨lc_X0_isEar, mw_594, mw_301, mw_302⟩
theorem mw_595 : (Cond.methodLink "SoupOrHorses$Reader" (126 : Nat) ({ cls := "SoupOrHorses$Camp", name := "isLook", desc := "(I)Z" } : Jvm.MethodName)) ∈ WS := tb_3 (List.mem_of_getElem? (i := 115) (by decide +kernel)) (by decide +kernel)
theorem ls_X5_126 : LSt RX5 126 mX0_isLook 1 := ⟨lc_X0_isLook, mw_595, mw_406⟩
theorem mw_596 : (Cond.methodLink "SoupOrHorses$Reader" (129 : Nat) ({ cls := "SoupOrHorses$Camp", name := "addMan", desc := "(II)I" } : Jvm.MethodName)) ∈ WS := tb_3 (List.mem_of_getElem? (i := 116) (by decide +kernel)) (by decide +kernel)
theorem lv_X5_129 : LV RX5 129 mX0_addMan 2 := ⟨lc_X0_addMan, mw_596, mw_413, mw_414⟩
theorem mw_598 : (Cond.methodLink "SoupOrHorses$Reader" (67 : Nat) ({ cls := "SoupOrHorses$Reader", name := "isSureRead", desc := "(LSoupOrHorses$Tape;LSoupOrHorses$Camp;)Z" } : Jvm.MethodName)) ∈ WS := tb_3 (List.mem_of_getElem? (i := 118) (by decide +kernel)) (by decide +kernel)
theorem mw_599 : (Cond.static ({ cls := "SoupOrHorses$Reader", name := "isSureRead", desc := "(LSoupOrHorses$Tape;LSoupOrHorses$Camp;)Z" } : Jvm.MethodName)) ∈ WS := tb_3 (List.mem_of_getElem? (i := 119) (by decide +kernel)) (by decide +kernel)
theorem ls_X5_67 : LSt RX5 67 mX5_isSureRead 2 := ⟨lc_X5_isSureRead, mw_598, mw_599⟩
theorem mw_601 : (Cond.methodLink "SoupOrHorses$Reader" (132 : Nat) ({ cls := "SoupOrHorses$Camp", name := "isSure", desc := "(I)Z" } : Jvm.MethodName)) ∈ WS := tb_3 (List.mem_of_getElem? (i := 121) (by decide +kernel)) (by decide +kernel)
theorem ls_X5_132 : LSt RX5 132 mX0_isSure 1 := ⟨lc_X0_isSure, mw_601, mw_445⟩
theorem mw_603 : (Cond.methodLink "SoupOrHorses$Reader" (72 : Nat) ({ cls := "SoupOrHorses$Reader", name := "isLostRead", desc := "(LSoupOrHorses$Tape;LSoupOrHorses$Camp;)Z" } : Jvm.MethodName)) ∈ WS := tb_3 (List.mem_of_getElem? (i := 123) (by decide +kernel)) (by decide +kernel)
theorem mw_604 : (Cond.static ({ cls := "SoupOrHorses$Reader", name := "isLostRead", desc := "(LSoupOrHorses$Tape;LSoupOrHorses$Camp;)Z" } : Jvm.MethodName)) ∈ WS := tb_3 (List.mem_of_getElem? (i := 124) (by decide +kernel)) (by decide +kernel)
theorem ls_X5_72 : LSt RX5 72 mX5_isLostRead 2 := ⟨lc_X5_isLostRead, mw_603, mw_604⟩
theorem mw_606 : (Cond.methodLink "SoupOrHorses$Reader" (137 : Nat) ({ cls := "SoupOrHorses$Camp", name := "isLost", desc := "(I)Z" } : Jvm.MethodName)) ∈ WS := tb_3 (List.mem_of_getElem? (i := 126) (by decide +kernel)) (by decide +kernel)
theorem ls_X5_137 : LSt RX5 137 mX0_isLost 1 := ⟨lc_X0_isLost, mw_606, mw_448⟩
theorem mw_608 : (Cond.methodLink "SoupOrHorses$Reader" (77 : Nat) ({ cls := "SoupOrHorses$Reader", name := "isUseRead", desc := "(LSoupOrHorses$Tape;LSoupOrHorses$Camp;)Z" } : Jvm.MethodName)) ∈ WS := tb_3 (List.mem_of_getElem? (i := 128) (by decide +kernel)) (by decide +kernel)
theorem mw_609 : (Cond.static ({ cls := "SoupOrHorses$Reader", name := "isUseRead", desc := "(LSoupOrHorses$Tape;LSoupOrHorses$Camp;)Z" } : Jvm.MethodName)) ∈ WS := tb_3 (List.mem_of_getElem? (i := 129) (by decide +kernel)) (by decide +kernel)
theorem ls_X5_77 : LSt RX5 77 mX5_isUseRead 2 := ⟨lc_X5_isUseRead, mw_608, mw_609⟩
theorem mw_611 : (Cond.methodLink "SoupOrHorses$Reader" (142 : Nat) ({ cls := "SoupOrHorses$Camp", name := "isCall", desc := "(I)Z" } : Jvm.MethodName)) ∈ WS := tb_3 (List.mem_of_getElem? (i := 131) (by decide +kernel)) (by decide +kernel)
theorem lv_X5_142 : LV RX5 142 mX0_isCall 1 := ⟨lc_X0_isCall, mw_611, mw_421, mw_422⟩
theorem mw_614 : (Cond.selects "SoupOrHorses$Tape" ({ cls := "SoupOrHorses$Tape", name := "isAtEnd", desc := "()Z" } : Jvm.MethodName) ({ cls := "SoupOrHorses$Tape", name := "isAtEnd", desc := "()Z" } : Jvm.MethodName)) ∈ WS := tb_3 (List.mem_of_getElem? (i := 134) (by decide +kernel)) (by decide +kernel)
theorem mw_612 : (Cond.methodLink "SoupOrHorses$Reader" (25 : Nat) ({ cls := "SoupOrHorses$Tape", name := "isAtEnd", desc := "()Z" } : Jvm.MethodName)) ∈ WS := tb_3 (List.mem_of_getElem? (i := 132) (by decide +kernel)) (by decide +kernel)
theorem mw_613 : (Cond.instanceMethod ({ cls := "SoupOrHorses$Tape", name := "isAtEnd", desc := "()Z" } : Jvm.MethodName)) ∈ WS := tb_3 (List.mem_of_getElem? (i := 133) (by decide +kernel)) (by decide +kernel)
theorem lv_X5_25 : LV RX5 25 mX8_isAtEnd 0 := ⟨lc_X8_isAtEnd, mw_612, mw_613, mw_614⟩
theorem mw_618 : (Cond.selects "SoupOrHorses$Tape" ({ cls := "SoupOrHorses$Tape", name := "isAtSign", desc := "()Z" } : Jvm.MethodName) ({ cls := "SoupOrHorses$Tape", name := "isAtSign", desc := "()Z" } : Jvm.MethodName)) ∈ WS := tb_3 (List.mem_of_getElem? (i := 138) (by decide +kernel)) (by decide +kernel)
theorem mw_616 : (Cond.methodLink "SoupOrHorses$Reader" (29 : Nat) ({ cls := "SoupOrHorses$Tape", name := "isAtSign", desc := "()Z" } : Jvm.MethodName)) ∈ WS := tb_3 (List.mem_of_getElem? (i := 136) (by decide +kernel)) (by decide +kernel)
theorem mw_617 : (Cond.instanceMethod ({ cls := "SoupOrHorses$Tape", name := "isAtSign", desc := "()Z" } : Jvm.MethodName)) ∈ WS := tb_3 (List.mem_of_getElem? (i := 137) (by decide +kernel)) (by decide +kernel)
theorem lv_X5_29 : LV RX5 29 mX8_isAtSign 0 := ⟨lc_X8_isAtSign, mw_616, mw_617, mw_618⟩
theorem mw_623 : (Cond.selects "SoupOrHorses" ({ cls := "SoupOrHorses", name := "callOf", desc := "(II)I" } : Jvm.MethodName) ({ cls := "SoupOrHorses", name := "callOf", desc := "(II)I" } : Jvm.MethodName)) ∈ WS := tb_3 (List.mem_of_getElem? (i := 143) (by decide +kernel)) (by decide +kernel)
theorem mw_621 : (Cond.methodLink "SoupOrHorsesLaw" (83 : Nat) ({ cls := "SoupOrHorses", name := "callOf", desc := "(II)I" } : Jvm.MethodName)) ∈ WS := tb_3 (List.mem_of_getElem? (i := 141) (by decide +kernel)) (by decide +kernel)
theorem mw_622 : (Cond.instanceMethod ({ cls := "SoupOrHorses", name := "callOf", desc := "(II)I" } : Jvm.MethodName)) ∈ WS := tb_3 (List.mem_of_getElem? (i := 142) (by decide +kernel)) (by decide +kernel)
theorem lv_L_83 : LV RL 83 mX9_callOf 2 := ⟨lc_X9_callOf, mw_621, mw_622, mw_623⟩
theorem mw_627 : (Cond.selects "SoupOrHorses$Camp" ({ cls := "SoupOrHorses$Camp", name := "sizeOf", desc := "(I)I" } : Jvm.MethodName) ({ cls := "SoupOrHorses$Camp", name := "sizeOf", desc := "(I)I" } : Jvm.MethodName)) ∈ WS := tb_3 (List.mem_of_getElem? (i := 147) (by decide +kernel)) (by decide +kernel)
theorem mw_625 : (Cond.methodLink "SoupOrHorses" (220 : Nat) ({ cls := "SoupOrHorses$Camp", name := "sizeOf", desc := "(I)I" } : Jvm.MethodName)) ∈ WS := tb_3 (List.mem_of_getElem? (i := 145) (by decide +kernel)) (by decide +kernel)
theorem mw_626 : (Cond.instanceMethod ({ cls := "SoupOrHorses$Camp", name := "sizeOf", desc := "(I)I" } : Jvm.MethodName)) ∈ WS := tb_3 (List.mem_of_getElem? (i := 146) (by decide +kernel)) (by decide +kernel)
theorem lv_X9_220 : LV RX9 220 mX0_sizeOf 1 := ⟨lc_X0_sizeOf, mw_625, mw_626, mw_627⟩
theorem mw_629 : (Cond.methodLink "SoupOrHorses" (223 : Nat) ({ cls := "SoupOrHorses$Camp", name := "useOf", desc := "(I)I" } : Jvm.MethodName)) ∈ WS := tb_3 (List.mem_of_getElem? (i := 149) (by decide +kernel)) (by decide +kernel)
theorem lv_X9_223 : LV RX9 223 mX0_useOf 1 := ⟨lc_X0_useOf, mw_629, mw_429, mw_430⟩
theorem mw_630 : (Cond.methodLink "SoupOrHorses" (226 : Nat) ({ cls := "SoupOrHorses$Camp", name := "costOf", desc := "(I)I" } : Jvm.MethodName)) ∈ WS := tb_3 (List.mem_of_getElem? (i := 150) (by decide +kernel)) (by decide +kernel)
theorem lv_X9_226 : LV RX9 226 mX0_costOf 1 := ⟨lc_X0_costOf, mw_630, mw_437, mw_438⟩
theorem mw_633 : (Cond.selects "SoupOrHorses$Camp" ({ cls := "SoupOrHorses$Camp", name := "isNoteOf", desc := "(II)Z" } : Jvm.MethodName) ({ cls := "SoupOrHorses$Camp", name := "isNoteOf", desc := "(II)Z" } : Jvm.MethodName)) ∈ WS := tb_3 (List.mem_of_getElem? (i := 153) (by decide +kernel)) (by decide +kernel)
theorem mw_631 : (Cond.methodLink "SoupOrHorses" (229 : Nat) ({ cls := "SoupOrHorses$Camp", name := "isNoteOf", desc := "(II)Z" } : Jvm.MethodName)) ∈ WS := tb_3 (List.mem_of_getElem? (i := 151) (by decide +kernel)) (by decide +kernel)
theorem mw_632 : (Cond.instanceMethod ({ cls := "SoupOrHorses$Camp", name := "isNoteOf", desc := "(II)Z" } : Jvm.MethodName)) ∈ WS := tb_3 (List.mem_of_getElem? (i := 152) (by decide +kernel)) (by decide +kernel)
theorem lv_X9_229 : LV RX9 229 mX0_isNoteOf 2 := ⟨lc_X0_isNoteOf, mw_631, mw_632, mw_633⟩
theorem mw_635 : (Cond.methodLink "SoupOrHorses$Camp" (67 : Nat) ({ cls := "SoupOrHorses$Camp", name := "sizeOf", desc := "(I)I" } : Jvm.MethodName)) ∈ WS := tb_3 (List.mem_of_getElem? (i := 155) (by decide +kernel)) (by decide +kernel)
theorem lv_X0_67 : LV RX0 67 mX0_sizeOf 1 := ⟨lc_X0_sizeOf, mw_635, mw_626, mw_627⟩
theorem mw_638 : (Cond.selects "SoupOrHorses$Camp" ({ cls := "SoupOrHorses$Camp", name := "noteAt", desc := "(II)I" } : Jvm.MethodName) ({ cls := "SoupOrHorses$Camp", name := "noteAt", desc := "(II)I" } : Jvm.MethodName)) ∈ WS := tb_3 (List.mem_of_getElem? (i := 158) (by decide +kernel)) (by decide +kernel)
theorem mw_636 : (Cond.methodLink "SoupOrHorses" (232 : Nat) ({ cls := "SoupOrHorses$Camp", name := "noteAt", desc := "(II)I" } : Jvm.MethodName)) ∈ WS := tb_3 (List.mem_of_getElem? (i := 156) (by decide +kernel)) (by decide +kernel)
theorem mw_637 : (Cond.instanceMethod ({ cls := "SoupOrHorses$Camp", name := "noteAt", desc := "(II)I" } : Jvm.MethodName)) ∈ WS := tb_3 (List.mem_of_getElem? (i := 157) (by decide +kernel)) (by decide +kernel)
theorem lv_X9_232 : LV RX9 232 mX0_noteAt 2 := ⟨lc_X0_noteAt, mw_636, mw_637, mw_638⟩
theorem mw_642 : (Cond.selects "SoupOrHorses" ({ cls := "SoupOrHorses", name := "earOf", desc := "(II)I" } : Jvm.MethodName) ({ cls := "SoupOrHorses", name := "earOf", desc := "(II)I" } : Jvm.MethodName)) ∈ WS := tb_3 (List.mem_of_getElem? (i := 162) (by decide +kernel)) (by decide +kernel)
theorem mw_640 : (Cond.methodLink "SoupOrHorsesLaw" (87 : Nat) ({ cls := "SoupOrHorses", name := "earOf", desc := "(II)I" } : Jvm.MethodName)) ∈ WS := tb_3 (List.mem_of_getElem? (i := 160) (by decide +kernel)) (by decide +kernel)
theorem mw_641 : (Cond.instanceMethod ({ cls := "SoupOrHorses", name := "earOf", desc := "(II)I" } : Jvm.MethodName)) ∈ WS := tb_3 (List.mem_of_getElem? (i := 161) (by decide +kernel)) (by decide +kernel)
theorem lv_L_87 : LV RL 87 mX9_earOf 2 := ⟨lc_X9_earOf, mw_640, mw_641, mw_642⟩
theorem mw_646 : (Cond.selects "SoupOrHorses" ({ cls := "SoupOrHorses", name := "manOf", desc := "(II)I" } : Jvm.MethodName) ({ cls := "SoupOrHorses", name := "manOf", desc := "(II)I" } : Jvm.MethodName)) ∈ WS := tb_3 (List.mem_of_getElem? (i := 166) (by decide +kernel)) (by decide +kernel)
theorem mw_644 : (Cond.methodLink "SoupOrHorsesLaw" (91 : Nat) ({ cls := "SoupOrHorses", name := "manOf", desc := "(II)I" } : Jvm.MethodName)) ∈ WS := tb_3 (List.mem_of_getElem? (i := 164) (by decide +kernel)) (by decide +kernel)
theorem mw_645 : (Cond.instanceMethod ({ cls := "SoupOrHorses", name := "manOf", desc := "(II)I" } : Jvm.MethodName)) ∈ WS := tb_3 (List.mem_of_getElem? (i := 165) (by decide +kernel)) (by decide +kernel)
theorem lv_L_91 : LV RL 91 mX9_manOf 2 := ⟨lc_X9_manOf, mw_644, mw_645, mw_646⟩
theorem mw_650 : (Cond.selects "SoupOrHorses$Camp" ({ cls := "SoupOrHorses$Camp", name := "isMan", desc := "(I)Z" } : Jvm.MethodName) ({ cls := "SoupOrHorses$Camp", name := "isMan", desc := "(I)Z" } : Jvm.MethodName)) ∈ WS := tb_3 (List.mem_of_getElem? (i := 170) (by decide +kernel)) (by decide +kernel)
theorem mw_648 : (Cond.methodLink "SoupOrHorses" (235 : Nat) ({ cls := "SoupOrHorses$Camp", name := "isMan", desc := "(I)Z" } : Jvm.MethodName)) ∈ WS := tb_3 (List.mem_of_getElem? (i := 168) (by decide +kernel)) (by decide +kernel)
theorem mw_649 : (Cond.instanceMethod ({ cls := "SoupOrHorses$Camp", name := "isMan", desc := "(I)Z" } : Jvm.MethodName)) ∈ WS := tb_3 (List.mem_of_getElem? (i := 169) (by decide +kernel)) (by decide +kernel)
theorem lv_X9_235 : LV RX9 235 mX0_isMan 1 := ⟨lc_X0_isMan, mw_648, mw_649, mw_650⟩
theorem mw_654 : (Cond.selects "SoupOrHorses$Camp" ({ cls := "SoupOrHorses$Camp", name := "earOfMan", desc := "(I)I" } : Jvm.MethodName) ({ cls := "SoupOrHorses$Camp", name := "earOfMan", desc := "(I)I" } : Jvm.MethodName)) ∈ WS := tb_3 (List.mem_of_getElem? (i := 174) (by decide +kernel)) (by decide +kernel)
theorem mw_652 : (Cond.methodLink "SoupOrHorses" (238 : Nat) ({ cls := "SoupOrHorses$Camp", name := "earOfMan", desc := "(I)I" } : Jvm.MethodName)) ∈ WS := tb_3 (List.mem_of_getElem? (i := 172) (by decide +kernel)) (by decide +kernel)
theorem mw_653 : (Cond.instanceMethod ({ cls := "SoupOrHorses$Camp", name := "earOfMan", desc := "(I)I" } : Jvm.MethodName)) ∈ WS := tb_3 (List.mem_of_getElem? (i := 173) (by decide +kernel)) (by decide +kernel)
theorem lv_X9_238 : LV RX9 238 mX0_earOfMan 1 := ⟨lc_X0_earOfMan, mw_652, mw_653, mw_654⟩
theorem mw_658 : (Cond.selects "SoupOrHorses$Camp" ({ cls := "SoupOrHorses$Camp", name := "lookOf", desc := "(I)I" } : Jvm.MethodName) ({ cls := "SoupOrHorses$Camp", name := "lookOf", desc := "(I)I" } : Jvm.MethodName)) ∈ WS := tb_3 (List.mem_of_getElem? (i := 178) (by decide +kernel)) (by decide +kernel)
theorem mw_656 : (Cond.methodLink "SoupOrHorses" (241 : Nat) ({ cls := "SoupOrHorses$Camp", name := "lookOf", desc := "(I)I" } : Jvm.MethodName)) ∈ WS := tb_3 (List.mem_of_getElem? (i := 176) (by decide +kernel)) (by decide +kernel)
theorem mw_657 : (Cond.instanceMethod ({ cls := "SoupOrHorses$Camp", name := "lookOf", desc := "(I)I" } : Jvm.MethodName)) ∈ WS := tb_3 (List.mem_of_getElem? (i := 177) (by decide +kernel)) (by decide +kernel)
theorem lv_X9_241 : LV RX9 241 mX0_lookOf 1 := ⟨lc_X0_lookOf, mw_656, mw_657, mw_658⟩
theorem mw_662 : (Cond.selects "SoupOrHorses" ({ cls := "SoupOrHorses", name := "heard", desc := "(III)I" } : Jvm.MethodName) ({ cls := "SoupOrHorses", name := "heard", desc := "(III)I" } : Jvm.MethodName)) ∈ WS := tb_3 (List.mem_of_getElem? (i := 182) (by decide +kernel)) (by decide +kernel)
theorem mw_660 : (Cond.methodLink "SoupOrHorsesLaw" (95 : Nat) ({ cls := "SoupOrHorses", name := "heard", desc := "(III)I" } : Jvm.MethodName)) ∈ WS := tb_3 (List.mem_of_getElem? (i := 180) (by decide +kernel)) (by decide +kernel)
theorem mw_661 : (Cond.instanceMethod ({ cls := "SoupOrHorses", name := "heard", desc := "(III)I" } : Jvm.MethodName)) ∈ WS := tb_3 (List.mem_of_getElem? (i := 181) (by decide +kernel)) (by decide +kernel)
theorem lv_L_95 : LV RL 95 mX9_heard 3 := ⟨lc_X9_heard, mw_660, mw_661, mw_662⟩
theorem mw_664 : (Cond.methodLink "SoupOrHorses" (244 : Nat) ({ cls := "SoupOrHorses$Sense", name := "noteByEar", desc := "(LSoupOrHorses$Camp;III)I" } : Jvm.MethodName)) ∈ WS := tb_3 (List.mem_of_getElem? (i := 184) (by decide +kernel)) (by decide +kernel)
theorem mw_665 : (Cond.static ({ cls := "SoupOrHorses$Sense", name := "noteByEar", desc := "(LSoupOrHorses$Camp;III)I" } : Jvm.MethodName)) ∈ WS := tb_3 (List.mem_of_getElem? (i := 185) (by decide +kernel)) (by decide +kernel)
theorem ls_X9_244 : LSt RX9 244 mX6_noteByEar 4 := ⟨lc_X6_noteByEar, mw_664, mw_665⟩
theorem mw_667 : (Cond.methodLink "SoupOrHorses$Sense" (9 : Nat) ({ cls := "SoupOrHorses$Camp", name := "kindOf", desc := "(I)I" } : Jvm.MethodName)) ∈ WS := tb_3 (List.mem_of_getElem? (i := 187) (by decide +kernel)) (by decide +kernel)
theorem lv_X6_9 : LV RX6 9 mX0_kindOf 1 := ⟨lc_X0_kindOf, mw_667, mw_324, mw_325⟩
theorem mw_668 : (Cond.methodLink "SoupOrHorses$Sense" (15 : Nat) ({ cls := "SoupOrHorses$Camp", name := "strengthOf", desc := "(I)I" } : Jvm.MethodName)) ∈ WS := tb_3 (List.mem_of_getElem? (i := 188) (by decide +kernel)) (by decide +kernel)
theorem lv_X6_15 : LV RX6 15 mX0_strengthOf 1 := ⟨lc_X0_strengthOf, mw_668, mw_331, mw_332⟩
theorem mw_669 : (Cond.methodLink "SoupOrHorses$Sense" (18 : Nat) ({ cls := "SoupOrHorses$Camp", name := "sizeOf", desc := "(I)I" } : Jvm.MethodName)) ∈ WS := tb_3 (List.mem_of_getElem? (i := 189) (by decide +kernel)) (by decide +kernel)
theorem lv_X6_18 : LV RX6 18 mX0_sizeOf 1 := ⟨lc_X0_sizeOf, mw_669, mw_626, mw_627⟩
theorem mw_670 : (Cond.methodLink "SoupOrHorses$Sense" (21 : Nat) ({ cls := "SoupOrHorses$Kind", name := "isTornAway", desc := "(IIII)Z" } : Jvm.MethodName)) ∈ WS := tb_3 (List.mem_of_getElem? (i := 190) (by decide +kernel)) (by decide +kernel)
theorem ls_X6_21 : LSt RX6 21 mX3_isTornAway 4 := ⟨lc_X3_isTornAway, mw_670, mw_341⟩
theorem mw_671 : (Cond.methodLink "SoupOrHorses$Sense" (29 : Nat) ({ cls := "SoupOrHorses$Kind", name := "isEchoed", desc := "(III)Z" } : Jvm.MethodName)) ∈ WS := tb_3 (List.mem_of_getElem? (i := 191) (by decide +kernel)) (by decide +kernel)
theorem ls_X6_29 : LSt RX6 29 mX3_isEchoed 3 := ⟨lc_X3_isEchoed, mw_671, mw_350⟩
theorem mw_672 : (Cond.methodLink "SoupOrHorses$Sense" (33 : Nat) ({ cls := "SoupOrHorses$Camp", name := "noteAt", desc := "(II)I" } : Jvm.MethodName)) ∈ WS := tb_3 (List.mem_of_getElem? (i := 192) (by decide +kernel)) (by decide +kernel)
theorem lv_X6_33 : LV RX6 33 mX0_noteAt 2 := ⟨lc_X0_noteAt, mw_672, mw_637, mw_638⟩
theorem mw_673 : (Cond.methodLink "SoupOrHorses$Sense" (37 : Nat) ({ cls := "SoupOrHorses$Kind", name := "changedNote", desc := "(II)I" } : Jvm.MethodName)) ∈ WS := tb_3 (List.mem_of_getElem? (i := 193) (by decide +kernel)) (by decide +kernel)
theorem ls_X6_37 : LSt RX6 37 mX3_changedNote 2 := ⟨lc_X3_changedNote, mw_673, mw_344⟩
theorem mw_676 : (Cond.selects "SoupOrHorses" ({ cls := "SoupOrHorses", name := "fits", desc := "(IIZII)I" } : Jvm.MethodName) ({ cls := "SoupOrHorses", name := "fits", desc := "(IIZII)I" } : Jvm.MethodName)) ∈ WS := tb_3 (List.mem_of_getElem? (i := 196) (by decide +kernel)) (by decide +kernel)
theorem mw_674 : (Cond.methodLink "SoupOrHorsesLaw" (99 : Nat) ({ cls := "SoupOrHorses", name := "fits", desc := "(IIZII)I" } : Jvm.MethodName)) ∈ WS := tb_3 (List.mem_of_getElem? (i := 194) (by decide +kernel)) (by decide +kernel)
theorem mw_675 : (Cond.instanceMethod ({ cls := "SoupOrHorses", name := "fits", desc := "(IIZII)I" } : Jvm.MethodName)) ∈ WS := tb_3 (List.mem_of_getElem? (i := 195) (by decide +kernel)) (by decide +kernel)
theorem lv_L_99 : LV RL 99 mX9_fits 5 := ⟨lc_X9_fits, mw_674, mw_675, mw_676⟩
theorem ms_4 : Cond.selects yX9_takeHearing.cls yX9_takeHearing yX9_takeHearing ∈ WS := WS_of (List.mem_append_left _ (List.mem_of_getElem? (i := 4) (by decide +kernel))) (by decide +kernel)
theorem mw_678 : (Cond.methodLink "SoupOrHorses" (250 : Nat) ({ cls := "SoupOrHorses", name := "takeHearing", desc := "(IIZZ)I" } : Jvm.MethodName)) ∈ WS := tb_3 (List.mem_of_getElem? (i := 198) (by decide +kernel)) (by decide +kernel)
theorem mw_680 : (Cond.instanceMethod ({ cls := "SoupOrHorses", name := "takeHearing", desc := "(IIZZ)I" } : Jvm.MethodName)) ∈ WS := tb_3 (List.mem_of_getElem? (i := 200) (by decide +kernel)) (by decide +kernel)
theorem lv_X9_250 : LV RX9 250 mX9_takeHearing 4 := ⟨lc_X9_takeHearing, mw_678, mw_680, ms_4⟩
theorem mw_684 : (Cond.selects "SoupOrHorses$Shelf" ({ cls := "SoupOrHorses$Shelf", name := "firstUnheard", desc := "(I)I" } : Jvm.MethodName) ({ cls := "SoupOrHorses$Shelf", name := "firstUnheard", desc := "(I)I" } : Jvm.MethodName)) ∈ WS := tb_3 (List.mem_of_getElem? (i := 204) (by decide +kernel)) (by decide +kernel)
theorem mw_682 : (Cond.methodLink "SoupOrHorses" (365 : Nat) ({ cls := "SoupOrHorses$Shelf", name := "firstUnheard", desc := "(I)I" } : Jvm.MethodName)) ∈ WS := tb_3 (List.mem_of_getElem? (i := 202) (by decide +kernel)) (by decide +kernel)
theorem mw_683 : (Cond.instanceMethod ({ cls := "SoupOrHorses$Shelf", name := "firstUnheard", desc := "(I)I" } : Jvm.MethodName)) ∈ WS := tb_3 (List.mem_of_getElem? (i := 203) (by decide +kernel)) (by decide +kernel)
theorem lv_X9_365 : LV RX9 365 mX7_firstUnheard 1 := ⟨lc_X7_firstUnheard, mw_682, mw_683, mw_684⟩
theorem mw_689 : (Cond.selects "SoupOrHorses$Hearing" ({ cls := "SoupOrHorses$Hearing", name := "takeShelf", desc := "(LSoupOrHorses$Shelf;IZ)V" } : Jvm.MethodName) ({ cls := "SoupOrHorses$Hearing", name := "takeShelf", desc := "(LSoupOrHorses$Shelf;IZ)V" } : Jvm.MethodName)) ∈ WS := tb_3 (List.mem_of_getElem? (i := 209) (by decide +kernel)) (by decide +kernel)
theorem mw_687 : (Cond.methodLink "SoupOrHorses" (403 : Nat) ({ cls := "SoupOrHorses$Hearing", name := "takeShelf", desc := "(LSoupOrHorses$Shelf;IZ)V" } : Jvm.MethodName)) ∈ WS := tb_3 (List.mem_of_getElem? (i := 207) (by decide +kernel)) (by decide +kernel)
theorem mw_688 : (Cond.instanceMethod ({ cls := "SoupOrHorses$Hearing", name := "takeShelf", desc := "(LSoupOrHorses$Shelf;IZ)V" } : Jvm.MethodName)) ∈ WS := tb_3 (List.mem_of_getElem? (i := 208) (by decide +kernel)) (by decide +kernel)
theorem lv_X9_403 : LV RX9 403 mX2_takeShelf 3 := ⟨lc_X2_takeShelf, mw_687, mw_688, mw_689⟩
theorem mw_693 : (Cond.selects "SoupOrHorses$Hearing" ({ cls := "SoupOrHorses$Hearing", name := "cutTo", desc := "(IZ)V" } : Jvm.MethodName) ({ cls := "SoupOrHorses$Hearing", name := "cutTo", desc := "(IZ)V" } : Jvm.MethodName)) ∈ WS := tb_3 (List.mem_of_getElem? (i := 213) (by decide +kernel)) (by decide +kernel)
theorem mw_691 : (Cond.methodLink "SoupOrHorses$Hearing" (32 : Nat) ({ cls := "SoupOrHorses$Hearing", name := "cutTo", desc := "(IZ)V" } : Jvm.MethodName)) ∈ WS := tb_3 (List.mem_of_getElem? (i := 211) (by decide +kernel)) (by decide +kernel)
theorem mw_692 : (Cond.instanceMethod ({ cls := "SoupOrHorses$Hearing", name := "cutTo", desc := "(IZ)V" } : Jvm.MethodName)) ∈ WS := tb_3 (List.mem_of_getElem? (i := 212) (by decide +kernel)) (by decide +kernel)
theorem lv_X2_32 : LV RX2 32 mX2_cutTo 2 := ⟨lc_X2_cutTo, mw_691, mw_692, mw_693⟩
theorem mw_695 : (Cond.methodLink "SoupOrHorses$Hearing" (23 : Nat) ({ cls := "java/lang/Math", name := "min", desc := "(II)I" } : Jvm.MethodName)) ∈ WS := tb_3 (List.mem_of_getElem? (i := 215) (by decide +kernel)) (by decide +kernel)
theorem ls_X2_23 : LSt RX2 23 mJ9_min_7cf53 2 := ⟨lc_J9_min_7cf53, mw_695, mw_234⟩
theorem mw_696 : (Cond.methodLink "SoupOrHorses$Hearing" (29 : Nat) ({ cls := "java/lang/Math", name := "max", desc := "(II)I" } : Jvm.MethodName)) ∈ WS := tb_3 (List.mem_of_getElem? (i := 216) (by decide +kernel)) (by decide +kernel)
theorem ls_X2_29 : LSt RX2 29 mJ9_max_7cf53 2 := ⟨lc_J9_max_7cf53, mw_696, mw_237⟩
theorem mw_697 : (Cond.methodLink "SoupOrHorses$Hearing" (36 : Nat) ({ cls := "SoupOrHorses$Shelf", name := "elementAt", desc := "(I)J" } : Jvm.MethodName)) ∈ WS := tb_3 (List.mem_of_getElem? (i := 217) (by decide +kernel)) (by decide +kernel)
theorem lv_X2_36 : LV RX2 36 mX7_elementAt 1 := ⟨lc_X7_elementAt, mw_697, mw_289, mw_290⟩
theorem ms_5 : Cond.selects yX2_putNote.cls yX2_putNote yX2_putNote ∈ WS := WS_of (List.mem_append_left _ (List.mem_of_getElem? (i := 5) (by decide +kernel))) (by decide +kernel)
theorem mw_698 : (Cond.methodLink "SoupOrHorses$Hearing" (42 : Nat) ({ cls := "SoupOrHorses$Hearing", name := "putNote", desc := "(II)V" } : Jvm.MethodName)) ∈ WS := tb_3 (List.mem_of_getElem? (i := 218) (by decide +kernel)) (by decide +kernel)
theorem mw_700 : (Cond.instanceMethod ({ cls := "SoupOrHorses$Hearing", name := "putNote", desc := "(II)V" } : Jvm.MethodName)) ∈ WS := tb_3 (List.mem_of_getElem? (i := 220) (by decide +kernel)) (by decide +kernel)
theorem lv_X2_42 : LV RX2 42 mX2_putNote 2 := ⟨lc_X2_putNote, mw_698, mw_700, ms_5⟩
theorem mw_702 : (Cond.methodLink "SoupOrHorses" (254 : Nat) ({ cls := "SoupOrHorses$Sense", name := "isFit", desc := "(LSoupOrHorses$Camp;LSoupOrHorses$Hearing;II)Z" } : Jvm.MethodName)) ∈ WS := tb_3 (List.mem_of_getElem? (i := 222) (by decide +kernel)) (by decide +kernel)
theorem mw_703 : (Cond.static ({ cls := "SoupOrHorses$Sense", name := "isFit", desc := "(LSoupOrHorses$Camp;LSoupOrHorses$Hearing;II)Z" } : Jvm.MethodName)) ∈ WS := tb_3 (List.mem_of_getElem? (i := 223) (by decide +kernel)) (by decide +kernel)
theorem ls_X9_254 : LSt RX9 254 mX6_isFit 4 := ⟨lc_X6_isFit, mw_702, mw_703⟩
theorem mw_707 : (Cond.selects "SoupOrHorses$Hearing" ({ cls := "SoupOrHorses$Hearing", name := "noteAt", desc := "(I)I" } : Jvm.MethodName) ({ cls := "SoupOrHorses$Hearing", name := "noteAt", desc := "(I)I" } : Jvm.MethodName)) ∈ WS := tb_3 (List.mem_of_getElem? (i := 227) (by decide +kernel)) (by decide +kernel)
theorem mw_705 : (Cond.methodLink "SoupOrHorses$Sense" (48 : Nat) ({ cls := "SoupOrHorses$Hearing", name := "noteAt", desc := "(I)I" } : Jvm.MethodName)) ∈ WS := tb_3 (List.mem_of_getElem? (i := 225) (by decide +kernel)) (by decide +kernel)
theorem mw_706 : (Cond.instanceMethod ({ cls := "SoupOrHorses$Hearing", name := "noteAt", desc := "(I)I" } : Jvm.MethodName)) ∈ WS := tb_3 (List.mem_of_getElem? (i := 226) (by decide +kernel)) (by decide +kernel)
theorem lv_X6_48 : LV RX6 48 mX2_noteAt 1 := ⟨lc_X2_noteAt, mw_705, mw_706, mw_707⟩
theorem mw_709 : (Cond.methodLink "SoupOrHorses$Sense" (50 : Nat) ({ cls := "SoupOrHorses$Sense", name := "noteByEar", desc := "(LSoupOrHorses$Camp;III)I" } : Jvm.MethodName)) ∈ WS := tb_3 (List.mem_of_getElem? (i := 229) (by decide +kernel)) (by decide +kernel)
theorem ls_X6_50 : LSt RX6 50 mX6_noteByEar 4 := ⟨lc_X6_noteByEar, mw_709, mw_665⟩
theorem mw_712 : (Cond.selects "SoupOrHorses" ({ cls := "SoupOrHorses", name := "likely", desc := "(IIZII)I" } : Jvm.MethodName) ({ cls := "SoupOrHorses", name := "likely", desc := "(IIZII)I" } : Jvm.MethodName)) ∈ WS := tb_3 (List.mem_of_getElem? (i := 232) (by decide +kernel)) (by decide +kernel)
theorem mw_710 : (Cond.methodLink "SoupOrHorsesLaw" (104 : Nat) ({ cls := "SoupOrHorses", name := "likely", desc := "(IIZII)I" } : Jvm.MethodName)) ∈ WS := tb_3 (List.mem_of_getElem? (i := 230) (by decide +kernel)) (by decide +kernel)
theorem mw_711 : (Cond.instanceMethod ({ cls := "SoupOrHorses", name := "likely", desc := "(IIZII)I" } : Jvm.MethodName)) ∈ WS := tb_3 (List.mem_of_getElem? (i := 231) (by decide +kernel)) (by decide +kernel)
theorem lv_L_104 : LV RL 104 mX9_likely 5 := ⟨lc_X9_likely, mw_710, mw_711, mw_712⟩
theorem mw_714 : (Cond.methodLink "SoupOrHorses" (258 : Nat) ({ cls := "SoupOrHorses$Sense", name := "likelyOf", desc := "(LSoupOrHorses$Camp;LSoupOrHorses$Hearing;II)I" } : Jvm.MethodName)) ∈ WS := tb_3 (List.mem_of_getElem? (i := 234) (by decide +kernel)) (by decide +kernel)
theorem mw_715 : (Cond.static ({ cls := "SoupOrHorses$Sense", name := "likelyOf", desc := "(LSoupOrHorses$Camp;LSoupOrHorses$Hearing;II)I" } : Jvm.MethodName)) ∈ WS := tb_3 (List.mem_of_getElem? (i := 235) (by decide +kernel)) (by decide +kernel)
theorem ls_X9_258 : LSt RX9 258 mX6_likelyOf 4 := ⟨lc_X6_likelyOf, mw_714, mw_715⟩
theorem mw_717 : (Cond.methodLink "SoupOrHorses$Sense" (59 : Nat) ({ cls := "SoupOrHorses$Sense", name := "isFit", desc := "(LSoupOrHorses$Camp;LSoupOrHorses$Hearing;II)Z" } : Jvm.MethodName)) ∈ WS := tb_3 (List.mem_of_getElem? (i := 237) (by decide +kernel)) (by decide +kernel)
theorem ls_X6_59 : LSt RX6 59 mX6_isFit 4 := ⟨lc_X6_isFit, mw_717, mw_703⟩
theorem mw_718 : (Cond.methodLink "SoupOrHorses$Sense" (63 : Nat) ({ cls := "SoupOrHorses$Camp", name := "useOf", desc := "(I)I" } : Jvm.MethodName)) ∈ WS := tb_3 (List.mem_of_getElem? (i := 238) (by decide +kernel)) (by decide +kernel)
theorem lv_X6_63 : LV RX6 63 mX0_useOf 1 := ⟨lc_X0_useOf, mw_718, mw_429, mw_430⟩
theorem mw_719 : (Cond.methodLink "SoupOrHorses$Sense" (66 : Nat) ({ cls := "SoupOrHorses$Sense", name := "usesThatFit", desc := "(LSoupOrHorses$Camp;LSoupOrHorses$Hearing;I)I" } : Jvm.MethodName)) ∈ WS := tb_3 (List.mem_of_getElem? (i := 239) (by decide +kernel)) (by decide +kernel)
theorem mw_720 : (Cond.static ({ cls := "SoupOrHorses$Sense", name := "usesThatFit", desc := "(LSoupOrHorses$Camp;LSoupOrHorses$Hearing;I)I" } : Jvm.MethodName)) ∈ WS := tb_4 (List.mem_of_getElem? (i := 0) (by decide +kernel)) (by decide +kernel)
theorem ls_X6_66 : LSt RX6 66 mX6_usesThatFit 3 := ⟨lc_X6_usesThatFit, mw_719, mw_720⟩
theorem mw_722 : (Cond.methodLink "SoupOrHorses$Sense" (70 : Nat) ({ cls := "SoupOrHorses$Sense", name := "perThousand", desc := "(II)I" } : Jvm.MethodName)) ∈ WS := tb_4 (List.mem_of_getElem? (i := 2) (by decide +kernel)) (by decide +kernel)
theorem mw_723 : (Cond.static ({ cls := "SoupOrHorses$Sense", name := "perThousand", desc := "(II)I" } : Jvm.MethodName)) ∈ WS := tb_4 (List.mem_of_getElem? (i := 3) (by decide +kernel)) (by decide +kernel)
theorem ls_X6_70 : LSt RX6 70 mX6_perThousand 2 := ⟨lc_X6_perThousand, mw_722, mw_723⟩
theorem mw_727 : (Cond.selects "SoupOrHorses" ({ cls := "SoupOrHorses", name := "guess", desc := "(IIZI)I" } : Jvm.MethodName) ({ cls := "SoupOrHorses", name := "guess", desc := "(IIZI)I" } : Jvm.MethodName)) ∈ WS := tb_4 (List.mem_of_getElem? (i := 7) (by decide +kernel)) (by decide +kernel)
theorem mw_725 : (Cond.methodLink "SoupOrHorsesLaw" (108 : Nat) ({ cls := "SoupOrHorses", name := "guess", desc := "(IIZI)I" } : Jvm.MethodName)) ∈ WS := tb_4 (List.mem_of_getElem? (i := 5) (by decide +kernel)) (by decide +kernel)
theorem mw_726 : (Cond.instanceMethod ({ cls := "SoupOrHorses", name := "guess", desc := "(IIZI)I" } : Jvm.MethodName)) ∈ WS := tb_4 (List.mem_of_getElem? (i := 6) (by decide +kernel)) (by decide +kernel)
theorem lv_L_108 : LV RL 108 mX9_guess 4 := ⟨lc_X9_guess, mw_725, mw_726, mw_727⟩
theorem mw_729 : (Cond.methodLink "SoupOrHorses" (262 : Nat) ({ cls := "SoupOrHorses$Sense", name := "guessOf", desc := "(LSoupOrHorses$Camp;LSoupOrHorses$Hearing;I)I" } : Jvm.MethodName)) ∈ WS := tb_4 (List.mem_of_getElem? (i := 9) (by decide +kernel)) (by decide +kernel)
theorem mw_730 : (Cond.static ({ cls := "SoupOrHorses$Sense", name := "guessOf", desc := "(LSoupOrHorses$Camp;LSoupOrHorses$Hearing;I)I" } : Jvm.MethodName)) ∈ WS := tb_4 (List.mem_of_getElem? (i := 10) (by decide +kernel)) (by decide +kernel)
theorem ls_X9_262 : LSt RX9 262 mX6_guessOf 3 := ⟨lc_X6_guessOf, mw_729, mw_730⟩
theorem mw_734 : (Cond.selects "SoupOrHorses" ({ cls := "SoupOrHorses", name := "apart", desc := "(II)I" } : Jvm.MethodName) ({ cls := "SoupOrHorses", name := "apart", desc := "(II)I" } : Jvm.MethodName)) ∈ WS := tb_4 (List.mem_of_getElem? (i := 14) (by decide +kernel)) (by decide +kernel)
theorem mw_732 : (Cond.methodLink "SoupOrHorsesLaw" (113 : Nat) ({ cls := "SoupOrHorses", name := "apart", desc := "(II)I" } : Jvm.MethodName)) ∈ WS := tb_4 (List.mem_of_getElem? (i := 12) (by decide +kernel)) (by decide +kernel)
theorem mw_733 : (Cond.instanceMethod ({ cls := "SoupOrHorses", name := "apart", desc := "(II)I" } : Jvm.MethodName)) ∈ WS := tb_4 (List.mem_of_getElem? (i := 13) (by decide +kernel)) (by decide +kernel)
theorem lv_L_113 : LV RL 113 mX9_apart 2 := ⟨lc_X9_apart, mw_732, mw_733, mw_734⟩
theorem mw_738 : (Cond.selects "SoupOrHorses$Camp" ({ cls := "SoupOrHorses$Camp", name := "packedOf", desc := "(I)I" } : Jvm.MethodName) ({ cls := "SoupOrHorses$Camp", name := "packedOf", desc := "(I)I" } : Jvm.MethodName)) ∈ WS := tb_4 (List.mem_of_getElem? (i := 18) (by decide +kernel)) (by decide +kernel)
theorem mw_736 : (Cond.methodLink "SoupOrHorses" (266 : Nat) ({ cls := "SoupOrHorses$Camp", name := "packedOf", desc := "(I)I" } : Jvm.MethodName)) ∈ WS := tb_4 (List.mem_of_getElem? (i := 16) (by decide +kernel)) (by decide +kernel)
theorem mw_737 : (Cond.instanceMethod ({ cls := "SoupOrHorses$Camp", name := "packedOf", desc := "(I)I" } : Jvm.MethodName)) ∈ WS := tb_4 (List.mem_of_getElem? (i := 17) (by decide +kernel)) (by decide +kernel)
theorem lv_X9_266 : LV RX9 266 mX0_packedOf 1 := ⟨lc_X0_packedOf, mw_736, mw_737, mw_738⟩
theorem mw_740 : (Cond.methodLink "SoupOrHorses" (269 : Nat) ({ cls := "SoupOrHorses$Likeness", name := "distance", desc := "(II)I" } : Jvm.MethodName)) ∈ WS := tb_4 (List.mem_of_getElem? (i := 20) (by decide +kernel)) (by decide +kernel)
theorem mw_741 : (Cond.static ({ cls := "SoupOrHorses$Likeness", name := "distance", desc := "(II)I" } : Jvm.MethodName)) ∈ WS := tb_4 (List.mem_of_getElem? (i := 21) (by decide +kernel)) (by decide +kernel)
theorem ls_X9_269 : LSt RX9 269 mX4_distance 2 := ⟨lc_X4_distance, mw_740, mw_741⟩
theorem mw_744 : (Cond.methodLink "SoupOrHorses$Likeness" (18 : Nat) ({ cls := "java/lang/Integer", name := "bitCount", desc := "(I)I" } : Jvm.MethodName)) ∈ WS := tb_4 (List.mem_of_getElem? (i := 24) (by decide +kernel)) (by decide +kernel)
theorem mw_745 : (Cond.static ({ cls := "java/lang/Integer", name := "bitCount", desc := "(I)I" } : Jvm.MethodName)) ∈ WS := tb_4 (List.mem_of_getElem? (i := 25) (by decide +kernel)) (by decide +kernel)
theorem ls_X4_18 : LSt RX4 18 mJ6_bitCount_0f7a4 1 := ⟨lc_J6_bitCount_0f7a4, mw_744, mw_745⟩
theorem mw_752 : (Cond.selects "SoupOrHorses" ({ cls := "SoupOrHorses", name := "known", desc := "(II)I" } : Jvm.MethodName) ({ cls := "SoupOrHorses", name := "known", desc := "(II)I" } : Jvm.MethodName)) ∈ WS := tb_4 (List.mem_of_getElem? (i := 32) (by decide +kernel)) (by decide +kernel)
theorem mw_750 : (Cond.methodLink "SoupOrHorsesLaw" (117 : Nat) ({ cls := "SoupOrHorses", name := "known", desc := "(II)I" } : Jvm.MethodName)) ∈ WS := tb_4 (List.mem_of_getElem? (i := 30) (by decide +kernel)) (by decide +kernel)
theorem mw_751 : (Cond.instanceMethod ({ cls := "SoupOrHorses", name := "known", desc := "(II)I" } : Jvm.MethodName)) ∈ WS := tb_4 (List.mem_of_getElem? (i := 31) (by decide +kernel)) (by decide +kernel)
theorem lv_L_117 : LV RL 117 mX9_known 2 := ⟨lc_X9_known, mw_750, mw_751, mw_752⟩
theorem mw_754 : (Cond.methodLink "SoupOrHorses" (272 : Nat) ({ cls := "SoupOrHorses$Sense", name := "countedBehind", desc := "(LSoupOrHorses$Camp;LSoupOrHorses$Hearing;II)I" } : Jvm.MethodName)) ∈ WS := tb_4 (List.mem_of_getElem? (i := 34) (by decide +kernel)) (by decide +kernel)
theorem mw_755 : (Cond.static ({ cls := "SoupOrHorses$Sense", name := "countedBehind", desc := "(LSoupOrHorses$Camp;LSoupOrHorses$Hearing;II)I" } : Jvm.MethodName)) ∈ WS := tb_4 (List.mem_of_getElem? (i := 35) (by decide +kernel)) (by decide +kernel)
theorem ls_X9_272 : LSt RX9 272 mX6_countedBehind 4 := ⟨lc_X6_countedBehind, mw_754, mw_755⟩
theorem mw_759 : (Cond.selects "SoupOrHorses$Hearing" ({ cls := "SoupOrHorses$Hearing", name := "takeCall", desc := "(LSoupOrHorses$Camp;II)V" } : Jvm.MethodName) ({ cls := "SoupOrHorses$Hearing", name := "takeCall", desc := "(LSoupOrHorses$Camp;II)V" } : Jvm.MethodName)) ∈ WS := tb_4 (List.mem_of_getElem? (i := 39) (by decide +kernel)) (by decide +kernel)
theorem mw_757 : (Cond.methodLink "SoupOrHorses$Sense" (73 : Nat) ({ cls := "SoupOrHorses$Hearing", name := "takeCall", desc := "(LSoupOrHorses$Camp;II)V" } : Jvm.MethodName)) ∈ WS := tb_4 (List.mem_of_getElem? (i := 37) (by decide +kernel)) (by decide +kernel)
theorem mw_758 : (Cond.instanceMethod ({ cls := "SoupOrHorses$Hearing", name := "takeCall", desc := "(LSoupOrHorses$Camp;II)V" } : Jvm.MethodName)) ∈ WS := tb_4 (List.mem_of_getElem? (i := 38) (by decide +kernel)) (by decide +kernel)
theorem lv_X6_73 : LV RX6 73 mX2_takeCall 3 := ⟨lc_X2_takeCall, mw_757, mw_758, mw_759⟩
theorem mw_761 : (Cond.methodLink "SoupOrHorses$Hearing" (46 : Nat) ({ cls := "SoupOrHorses$Camp", name := "sizeOf", desc := "(I)I" } : Jvm.MethodName)) ∈ WS := tb_4 (List.mem_of_getElem? (i := 41) (by decide +kernel)) (by decide +kernel)
theorem lv_X2_46 : LV RX2 46 mX0_sizeOf 1 := ⟨lc_X0_sizeOf, mw_761, mw_626, mw_627⟩
theorem mw_762 : (Cond.methodLink "SoupOrHorses$Hearing" (50 : Nat) ({ cls := "SoupOrHorses$Sense", name := "noteByEar", desc := "(LSoupOrHorses$Camp;III)I" } : Jvm.MethodName)) ∈ WS := tb_4 (List.mem_of_getElem? (i := 42) (by decide +kernel)) (by decide +kernel)
theorem ls_X2_50 : LSt RX2 50 mX6_noteByEar 4 := ⟨lc_X6_noteByEar, mw_762, mw_665⟩
theorem mw_763 : (Cond.methodLink "SoupOrHorses$Sense" (77 : Nat) ({ cls := "SoupOrHorses$Hearing", name := "cutTo", desc := "(IZ)V" } : Jvm.MethodName)) ∈ WS := tb_4 (List.mem_of_getElem? (i := 43) (by decide +kernel)) (by decide +kernel)
theorem lv_X6_77 : LV RX6 77 mX2_cutTo 2 := ⟨lc_X2_cutTo, mw_763, mw_692, mw_693⟩
theorem mw_764 : (Cond.methodLink "SoupOrHorses$Sense" (81 : Nat) ({ cls := "SoupOrHorses$Sense", name := "fitsAnother", desc := "(LSoupOrHorses$Camp;LSoupOrHorses$Hearing;II)Z" } : Jvm.MethodName)) ∈ WS := tb_4 (List.mem_of_getElem? (i := 44) (by decide +kernel)) (by decide +kernel)
theorem mw_765 : (Cond.static ({ cls := "SoupOrHorses$Sense", name := "fitsAnother", desc := "(LSoupOrHorses$Camp;LSoupOrHorses$Hearing;II)Z" } : Jvm.MethodName)) ∈ WS := tb_4 (List.mem_of_getElem? (i := 45) (by decide +kernel)) (by decide +kernel)
theorem ls_X6_81 : LSt RX6 81 mX6_fitsAnother 4 := ⟨lc_X6_fitsAnother, mw_764, mw_765⟩
theorem mw_769 : (Cond.selects "SoupOrHorses" ({ cls := "SoupOrHorses", name := "earFor", desc := "(I)I" } : Jvm.MethodName) ({ cls := "SoupOrHorses", name := "earFor", desc := "(I)I" } : Jvm.MethodName)) ∈ WS := tb_4 (List.mem_of_getElem? (i := 49) (by decide +kernel)) (by decide +kernel)
theorem mw_767 : (Cond.methodLink "SoupOrHorsesLaw" (121 : Nat) ({ cls := "SoupOrHorses", name := "earFor", desc := "(I)I" } : Jvm.MethodName)) ∈ WS := tb_4 (List.mem_of_getElem? (i := 47) (by decide +kernel)) (by decide +kernel)
theorem mw_768 : (Cond.instanceMethod ({ cls := "SoupOrHorses", name := "earFor", desc := "(I)I" } : Jvm.MethodName)) ∈ WS := tb_4 (List.mem_of_getElem? (i := 48) (by decide +kernel)) (by decide +kernel)
theorem lv_L_121 : LV RL 121 mX9_earFor 1 := ⟨lc_X9_earFor, mw_767, mw_768, mw_769⟩
theorem mw_771 : (Cond.methodLink "SoupOrHorses" (278 : Nat) ({ cls := "SoupOrHorses$Sense", name := "bestEar", desc := "(LSoupOrHorses$Camp;LSoupOrHorses$Hearing;I)I" } : Jvm.MethodName)) ∈ WS := tb_4 (List.mem_of_getElem? (i := 51) (by decide +kernel)) (by decide +kernel)
theorem mw_772 : (Cond.static ({ cls := "SoupOrHorses$Sense", name := "bestEar", desc := "(LSoupOrHorses$Camp;LSoupOrHorses$Hearing;I)I" } : Jvm.MethodName)) ∈ WS := tb_4 (List.mem_of_getElem? (i := 52) (by decide +kernel)) (by decide +kernel)
theorem ls_X9_278 : LSt RX9 278 mX6_bestEar 3 := ⟨lc_X6_bestEar, mw_771, mw_772⟩
theorem mw_774 : (Cond.methodLink "SoupOrHorses$Sense" (87 : Nat) ({ cls := "SoupOrHorses$Sense", name := "countedBehind", desc := "(LSoupOrHorses$Camp;LSoupOrHorses$Hearing;II)I" } : Jvm.MethodName)) ∈ WS := tb_4 (List.mem_of_getElem? (i := 54) (by decide +kernel)) (by decide +kernel)
theorem ls_X6_87 : LSt RX6 87 mX6_countedBehind 4 := ⟨lc_X6_countedBehind, mw_774, mw_755⟩
theorem mw_777 : (Cond.selects "SoupOrHorses" ({ cls := "SoupOrHorses", name := "mean", desc := "(I)I" } : Jvm.MethodName) ({ cls := "SoupOrHorses", name := "mean", desc := "(I)I" } : Jvm.MethodName)) ∈ WS := tb_4 (List.mem_of_getElem? (i := 57) (by decide +kernel)) (by decide +kernel)
theorem mw_775 : (Cond.methodLink "SoupOrHorsesLaw" (125 : Nat) ({ cls := "SoupOrHorses", name := "mean", desc := "(I)I" } : Jvm.MethodName)) ∈ WS := tb_4 (List.mem_of_getElem? (i := 55) (by decide +kernel)) (by decide +kernel)
theorem mw_776 : (Cond.instanceMethod ({ cls := "SoupOrHorses", name := "mean", desc := "(I)I" } : Jvm.MethodName)) ∈ WS := tb_4 (List.mem_of_getElem? (i := 56) (by decide +kernel)) (by decide +kernel)
theorem lv_L_125 : LV RL 125 mX9_mean 1 := ⟨lc_X9_mean, mw_775, mw_776, mw_777⟩
theorem mw_779 : (Cond.methodLink "SoupOrHorses" (284 : Nat) ({ cls := "SoupOrHorses$Sense", name := "meanBehind", desc := "(LSoupOrHorses$Camp;LSoupOrHorses$Hearing;I)I" } : Jvm.MethodName)) ∈ WS := tb_4 (List.mem_of_getElem? (i := 59) (by decide +kernel)) (by decide +kernel)
theorem mw_780 : (Cond.static ({ cls := "SoupOrHorses$Sense", name := "meanBehind", desc := "(LSoupOrHorses$Camp;LSoupOrHorses$Hearing;I)I" } : Jvm.MethodName)) ∈ WS := tb_4 (List.mem_of_getElem? (i := 60) (by decide +kernel)) (by decide +kernel)
theorem ls_X9_284 : LSt RX9 284 mX6_meanBehind 3 := ⟨lc_X6_meanBehind, mw_779, mw_780⟩
theorem mw_784 : (Cond.selects "SoupOrHorses$Camp" ({ cls := "SoupOrHorses$Camp", name := "sumUses", desc := "()I" } : Jvm.MethodName) ({ cls := "SoupOrHorses$Camp", name := "sumUses", desc := "()I" } : Jvm.MethodName)) ∈ WS := tb_4 (List.mem_of_getElem? (i := 64) (by decide +kernel)) (by decide +kernel)
theorem mw_782 : (Cond.methodLink "SoupOrHorses$Sense" (91 : Nat) ({ cls := "SoupOrHorses$Camp", name := "sumUses", desc := "()I" } : Jvm.MethodName)) ∈ WS := tb_4 (List.mem_of_getElem? (i := 62) (by decide +kernel)) (by decide +kernel)
theorem mw_783 : (Cond.instanceMethod ({ cls := "SoupOrHorses$Camp", name := "sumUses", desc := "()I" } : Jvm.MethodName)) ∈ WS := tb_4 (List.mem_of_getElem? (i := 63) (by decide +kernel)) (by decide +kernel)
theorem lv_X6_91 : LV RX6 91 mX0_sumUses 0 := ⟨lc_X0_sumUses, mw_782, mw_783, mw_784⟩
theorem mw_788 : (Cond.selects "SoupOrHorses" ({ cls := "SoupOrHorses", name := "worst", desc := "(I)I" } : Jvm.MethodName) ({ cls := "SoupOrHorses", name := "worst", desc := "(I)I" } : Jvm.MethodName)) ∈ WS := tb_4 (List.mem_of_getElem? (i := 68) (by decide +kernel)) (by decide +kernel)
theorem mw_786 : (Cond.methodLink "SoupOrHorsesLaw" (129 : Nat) ({ cls := "SoupOrHorses", name := "worst", desc := "(I)I" } : Jvm.MethodName)) ∈ WS := tb_4 (List.mem_of_getElem? (i := 66) (by decide +kernel)) (by decide +kernel)
theorem mw_787 : (Cond.instanceMethod ({ cls := "SoupOrHorses", name := "worst", desc := "(I)I" } : Jvm.MethodName)) ∈ WS := tb_4 (List.mem_of_getElem? (i := 67) (by decide +kernel)) (by decide +kernel)
theorem lv_L_129 : LV RL 129 mX9_worst 1 := ⟨lc_X9_worst, mw_786, mw_787, mw_788⟩
theorem mw_790 : (Cond.methodLink "SoupOrHorses" (287 : Nat) ({ cls := "SoupOrHorses$Sense", name := "riskiest", desc := "(LSoupOrHorses$Camp;LSoupOrHorses$Hearing;I)I" } : Jvm.MethodName)) ∈ WS := tb_4 (List.mem_of_getElem? (i := 70) (by decide +kernel)) (by decide +kernel)
theorem mw_791 : (Cond.static ({ cls := "SoupOrHorses$Sense", name := "riskiest", desc := "(LSoupOrHorses$Camp;LSoupOrHorses$Hearing;I)I" } : Jvm.MethodName)) ∈ WS := tb_4 (List.mem_of_getElem? (i := 71) (by decide +kernel)) (by decide +kernel)
theorem ls_X9_287 : LSt RX9 287 mX6_riskiest 3 := ⟨lc_X6_riskiest, mw_790, mw_791⟩
theorem mw_793 : (Cond.methodLink "SoupOrHorses$Sense" (98 : Nat) ({ cls := "SoupOrHorses$Sense", name := "riskOf", desc := "(LSoupOrHorses$Camp;LSoupOrHorses$Hearing;II)I" } : Jvm.MethodName)) ∈ WS := tb_4 (List.mem_of_getElem? (i := 73) (by decide +kernel)) (by decide +kernel)
theorem mw_794 : (Cond.static ({ cls := "SoupOrHorses$Sense", name := "riskOf", desc := "(LSoupOrHorses$Camp;LSoupOrHorses$Hearing;II)I" } : Jvm.MethodName)) ∈ WS := tb_4 (List.mem_of_getElem? (i := 74) (by decide +kernel)) (by decide +kernel)
theorem ls_X6_98 : LSt RX6 98 mX6_riskOf 4 := ⟨lc_X6_riskOf, mw_793, mw_794⟩
theorem mw_796 : (Cond.methodLink "SoupOrHorses$Sense" (95 : Nat) ({ cls := "SoupOrHorses$Camp", name := "costOf", desc := "(I)I" } : Jvm.MethodName)) ∈ WS := tb_4 (List.mem_of_getElem? (i := 76) (by decide +kernel)) (by decide +kernel)
theorem lv_X6_95 : LV RX6 95 mX0_costOf 1 := ⟨lc_X0_costOf, mw_796, mw_437, mw_438⟩
theorem mw_799 : (Cond.selects "SoupOrHorses" ({ cls := "SoupOrHorses", name := "next", desc := "(III)I" } : Jvm.MethodName) ({ cls := "SoupOrHorses", name := "next", desc := "(III)I" } : Jvm.MethodName)) ∈ WS := tb_4 (List.mem_of_getElem? (i := 79) (by decide +kernel)) (by decide +kernel)
theorem mw_797 : (Cond.methodLink "SoupOrHorsesLaw" (133 : Nat) ({ cls := "SoupOrHorses", name := "next", desc := "(III)I" } : Jvm.MethodName)) ∈ WS := tb_4 (List.mem_of_getElem? (i := 77) (by decide +kernel)) (by decide +kernel)
theorem mw_798 : (Cond.instanceMethod ({ cls := "SoupOrHorses", name := "next", desc := "(III)I" } : Jvm.MethodName)) ∈ WS := tb_4 (List.mem_of_getElem? (i := 78) (by decide +kernel)) (by decide +kernel)
theorem lv_L_133 : LV RL 133 mX9_next 3 := ⟨lc_X9_next, mw_797, mw_798, mw_799⟩
theorem mw_801 : (Cond.methodLink "SoupOrHorses" (290 : Nat) ({ cls := "SoupOrHorses$Sense", name := "nextBits", desc := "(LSoupOrHorses$Camp;LSoupOrHorses$Hearing;I)I" } : Jvm.MethodName)) ∈ WS := tb_4 (List.mem_of_getElem? (i := 81) (by decide +kernel)) (by decide +kernel)
theorem mw_802 : (Cond.static ({ cls := "SoupOrHorses$Sense", name := "nextBits", desc := "(LSoupOrHorses$Camp;LSoupOrHorses$Hearing;I)I" } : Jvm.MethodName)) ∈ WS := tb_4 (List.mem_of_getElem? (i := 82) (by decide +kernel)) (by decide +kernel)
theorem ls_X9_290 : LSt RX9 290 mX6_nextBits 3 := ⟨lc_X6_nextBits, mw_801, mw_802⟩
theorem mw_804 : (Cond.methodLink "SoupOrHorses$Sense" (101 : Nat) ({ cls := "SoupOrHorses$Sense", name := "nextBit", desc := "(LSoupOrHorses$Camp;III)I" } : Jvm.MethodName)) ∈ WS := tb_4 (List.mem_of_getElem? (i := 84) (by decide +kernel)) (by decide +kernel)
theorem mw_805 : (Cond.static ({ cls := "SoupOrHorses$Sense", name := "nextBit", desc := "(LSoupOrHorses$Camp;III)I" } : Jvm.MethodName)) ∈ WS := tb_4 (List.mem_of_getElem? (i := 85) (by decide +kernel)) (by decide +kernel)
theorem ls_X6_101 : LSt RX6 101 mX6_nextBit 4 := ⟨lc_X6_nextBit, mw_804, mw_805⟩
theorem mw_807 : (Cond.methodLink "SoupOrHorses$Sense" (104 : Nat) ({ cls := "SoupOrHorses$Camp", name := "isNoteOf", desc := "(II)Z" } : Jvm.MethodName)) ∈ WS := tb_4 (List.mem_of_getElem? (i := 87) (by decide +kernel)) (by decide +kernel)
theorem lv_X6_104 : LV RX6 104 mX0_isNoteOf 2 := ⟨lc_X0_isNoteOf, mw_807, mw_632, mw_633⟩
theorem mw_810 : (Cond.selects "SoupOrHorses" ({ cls := "SoupOrHorses", name := "alikeFirst", desc := "(II)I" } : Jvm.MethodName) ({ cls := "SoupOrHorses", name := "alikeFirst", desc := "(II)I" } : Jvm.MethodName)) ∈ WS := tb_4 (List.mem_of_getElem? (i := 90) (by decide +kernel)) (by decide +kernel)
theorem mw_808 : (Cond.methodLink "SoupOrHorsesLaw" (137 : Nat) ({ cls := "SoupOrHorses", name := "alikeFirst", desc := "(II)I" } : Jvm.MethodName)) ∈ WS := tb_4 (List.mem_of_getElem? (i := 88) (by decide +kernel)) (by decide +kernel)
theorem mw_809 : (Cond.instanceMethod ({ cls := "SoupOrHorses", name := "alikeFirst", desc := "(II)I" } : Jvm.MethodName)) ∈ WS := tb_4 (List.mem_of_getElem? (i := 89) (by decide +kernel)) (by decide +kernel)
theorem lv_L_137 : LV RL 137 mX9_alikeFirst 2 := ⟨lc_X9_alikeFirst, mw_808, mw_809, mw_810⟩
theorem mw_812 : (Cond.methodLink "SoupOrHorses" (293 : Nat) ({ cls := "SoupOrHorses$Likeness", name := "sameStart", desc := "(LSoupOrHorses$Camp;II)I" } : Jvm.MethodName)) ∈ WS := tb_4 (List.mem_of_getElem? (i := 92) (by decide +kernel)) (by decide +kernel)
theorem mw_813 : (Cond.static ({ cls := "SoupOrHorses$Likeness", name := "sameStart", desc := "(LSoupOrHorses$Camp;II)I" } : Jvm.MethodName)) ∈ WS := tb_4 (List.mem_of_getElem? (i := 93) (by decide +kernel)) (by decide +kernel)
theorem ls_X9_293 : LSt RX9 293 mX4_sameStart 3 := ⟨lc_X4_sameStart, mw_812, mw_813⟩
theorem mw_815 : (Cond.methodLink "SoupOrHorses$Likeness" (24 : Nat) ({ cls := "SoupOrHorses$Camp", name := "sizeOf", desc := "(I)I" } : Jvm.MethodName)) ∈ WS := tb_4 (List.mem_of_getElem? (i := 95) (by decide +kernel)) (by decide +kernel)
theorem lv_X4_24 : LV RX4 24 mX0_sizeOf 1 := ⟨lc_X0_sizeOf, mw_815, mw_626, mw_627⟩
theorem mw_816 : (Cond.methodLink "SoupOrHorses$Likeness" (27 : Nat) ({ cls := "java/lang/Math", name := "min", desc := "(II)I" } : Jvm.MethodName)) ∈ WS := tb_4 (List.mem_of_getElem? (i := 96) (by decide +kernel)) (by decide +kernel)
theorem ls_X4_27 : LSt RX4 27 mJ9_min_7cf53 2 := ⟨lc_J9_min_7cf53, mw_816, mw_234⟩
theorem mw_817 : (Cond.methodLink "SoupOrHorses$Likeness" (33 : Nat) ({ cls := "SoupOrHorses$Camp", name := "noteAt", desc := "(II)I" } : Jvm.MethodName)) ∈ WS := tb_4 (List.mem_of_getElem? (i := 97) (by decide +kernel)) (by decide +kernel)
theorem lv_X4_33 : LV RX4 33 mX0_noteAt 2 := ⟨lc_X0_noteAt, mw_817, mw_637, mw_638⟩
theorem mw_820 : (Cond.selects "SoupOrHorses" ({ cls := "SoupOrHorses", name := "notes", desc := "(I)I" } : Jvm.MethodName) ({ cls := "SoupOrHorses", name := "notes", desc := "(I)I" } : Jvm.MethodName)) ∈ WS := tb_4 (List.mem_of_getElem? (i := 100) (by decide +kernel)) (by decide +kernel)
theorem mw_818 : (Cond.methodLink "SoupOrHorsesLaw" (141 : Nat) ({ cls := "SoupOrHorses", name := "notes", desc := "(I)I" } : Jvm.MethodName)) ∈ WS := tb_4 (List.mem_of_getElem? (i := 98) (by decide +kernel)) (by decide +kernel)
theorem mw_819 : (Cond.instanceMethod ({ cls := "SoupOrHorses", name := "notes", desc := "(I)I" } : Jvm.MethodName)) ∈ WS := tb_4 (List.mem_of_getElem? (i := 99) (by decide +kernel)) (by decide +kernel)
theorem lv_L_141 : LV RL 141 mX9_notes 1 := ⟨lc_X9_notes, mw_818, mw_819, mw_820⟩
theorem mw_822 : (Cond.methodLink "SoupOrHorses" (297 : Nat) ({ cls := "SoupOrHorses$Camp", name := "isNote", desc := "(J)Z" } : Jvm.MethodName)) ∈ WS := tb_4 (List.mem_of_getElem? (i := 102) (by decide +kernel)) (by decide +kernel)
theorem ls_X9_297 : LSt RX9 297 mX0_isNote 1 := ⟨lc_X0_isNote, mw_822, mw_368⟩
theorem mw_825 : (Cond.selects "SoupOrHorses$Camp" ({ cls := "SoupOrHorses$Camp", name := "countNote", desc := "(I)I" } : Jvm.MethodName) ({ cls := "SoupOrHorses$Camp", name := "countNote", desc := "(I)I" } : Jvm.MethodName)) ∈ WS := tb_4 (List.mem_of_getElem? (i := 105) (by decide +kernel)) (by decide +kernel)
theorem mw_823 : (Cond.methodLink "SoupOrHorses" (301 : Nat) ({ cls := "SoupOrHorses$Camp", name := "countNote", desc := "(I)I" } : Jvm.MethodName)) ∈ WS := tb_4 (List.mem_of_getElem? (i := 103) (by decide +kernel)) (by decide +kernel)
theorem mw_824 : (Cond.instanceMethod ({ cls := "SoupOrHorses$Camp", name := "countNote", desc := "(I)I" } : Jvm.MethodName)) ∈ WS := tb_4 (List.mem_of_getElem? (i := 104) (by decide +kernel)) (by decide +kernel)
theorem lv_X9_301 : LV RX9 301 mX0_countNote 1 := ⟨lc_X0_countNote, mw_823, mw_824, mw_825⟩
theorem mw_827 : (Cond.methodLink "SoupOrHorses$Camp" (81 : Nat) ({ cls := "SoupOrHorses$Camp", name := "noteAt", desc := "(II)I" } : Jvm.MethodName)) ∈ WS := tb_4 (List.mem_of_getElem? (i := 107) (by decide +kernel)) (by decide +kernel)
theorem lv_X0_81 : LV RX0 81 mX0_noteAt 2 := ⟨lc_X0_noteAt, mw_827, mw_637, mw_638⟩
theorem mw_830 : (Cond.selects "SoupOrHorses" ({ cls := "SoupOrHorses", name := "twins", desc := "()I" } : Jvm.MethodName) ({ cls := "SoupOrHorses", name := "twins", desc := "()I" } : Jvm.MethodName)) ∈ WS := tb_4 (List.mem_of_getElem? (i := 110) (by decide +kernel)) (by decide +kernel)
theorem mw_828 : (Cond.methodLink "SoupOrHorsesLaw" (145 : Nat) ({ cls := "SoupOrHorses", name := "twins", desc := "()I" } : Jvm.MethodName)) ∈ WS := tb_4 (List.mem_of_getElem? (i := 108) (by decide +kernel)) (by decide +kernel)
theorem mw_829 : (Cond.instanceMethod ({ cls := "SoupOrHorses", name := "twins", desc := "()I" } : Jvm.MethodName)) ∈ WS := tb_4 (List.mem_of_getElem? (i := 109) (by decide +kernel)) (by decide +kernel)
theorem lv_L_145 : LV RL 145 mX9_twins 0 := ⟨lc_X9_twins, mw_828, mw_829, mw_830⟩
theorem mw_832 : (Cond.methodLink "SoupOrHorses" (304 : Nat) ({ cls := "SoupOrHorses$Likeness", name := "countTwins", desc := "(LSoupOrHorses$Camp;)I" } : Jvm.MethodName)) ∈ WS := tb_4 (List.mem_of_getElem? (i := 112) (by decide +kernel)) (by decide +kernel)
theorem mw_833 : (Cond.static ({ cls := "SoupOrHorses$Likeness", name := "countTwins", desc := "(LSoupOrHorses$Camp;)I" } : Jvm.MethodName)) ∈ WS := tb_4 (List.mem_of_getElem? (i := 113) (by decide +kernel)) (by decide +kernel)
theorem ls_X9_304 : LSt RX9 304 mX4_countTwins 1 := ⟨lc_X4_countTwins, mw_832, mw_833⟩
theorem mw_835 : (Cond.methodLink "SoupOrHorses$Likeness" (40 : Nat) ({ cls := "SoupOrHorses$Camp", name := "packedOf", desc := "(I)I" } : Jvm.MethodName)) ∈ WS := tb_4 (List.mem_of_getElem? (i := 115) (by decide +kernel)) (by decide +kernel)
theorem lv_X4_40 : LV RX4 40 mX0_packedOf 1 := ⟨lc_X0_packedOf, mw_835, mw_737, mw_738⟩
theorem mw_836 : (Cond.methodLink "SoupOrHorses$Likeness" (43 : Nat) ({ cls := "SoupOrHorses$Likeness", name := "isClear", desc := "(LSoupOrHorses$Camp;III)Z" } : Jvm.MethodName)) ∈ WS := tb_4 (List.mem_of_getElem? (i := 116) (by decide +kernel)) (by decide +kernel)
theorem mw_837 : (Cond.static ({ cls := "SoupOrHorses$Likeness", name := "isClear", desc := "(LSoupOrHorses$Camp;III)Z" } : Jvm.MethodName)) ∈ WS := tb_4 (List.mem_of_getElem? (i := 117) (by decide +kernel)) (by decide +kernel)
theorem ls_X4_43 : LSt RX4 43 mX4_isClear 4 := ⟨lc_X4_isClear, mw_836, mw_837⟩
theorem mw_839 : (Cond.methodLink "SoupOrHorses$Likeness" (47 : Nat) ({ cls := "SoupOrHorses$Likeness", name := "distance", desc := "(II)I" } : Jvm.MethodName)) ∈ WS := tb_4 (List.mem_of_getElem? (i := 119) (by decide +kernel)) (by decide +kernel)
theorem ls_X4_47 : LSt RX4 47 mX4_distance 2 := ⟨lc_X4_distance, mw_839, mw_741⟩
theorem mw_842 : (Cond.selects "SoupOrHorses" ({ cls := "SoupOrHorses", name := "change", desc := "(II)I" } : Jvm.MethodName) ({ cls := "SoupOrHorses", name := "change", desc := "(II)I" } : Jvm.MethodName)) ∈ WS := tb_4 (List.mem_of_getElem? (i := 122) (by decide +kernel)) (by decide +kernel)
theorem mw_840 : (Cond.methodLink "SoupOrHorsesLaw" (149 : Nat) ({ cls := "SoupOrHorses", name := "change", desc := "(II)I" } : Jvm.MethodName)) ∈ WS := tb_4 (List.mem_of_getElem? (i := 120) (by decide +kernel)) (by decide +kernel)
theorem mw_841 : (Cond.instanceMethod ({ cls := "SoupOrHorses", name := "change", desc := "(II)I" } : Jvm.MethodName)) ∈ WS := tb_4 (List.mem_of_getElem? (i := 121) (by decide +kernel)) (by decide +kernel)
theorem lv_L_149 : LV RL 149 mX9_change 2 := ⟨lc_X9_change, mw_840, mw_841, mw_842⟩
theorem mw_844 : (Cond.methodLink "SoupOrHorses" (308 : Nat) ({ cls := "SoupOrHorses", name := "isDistance", desc := "(I)Z" } : Jvm.MethodName)) ∈ WS := tb_4 (List.mem_of_getElem? (i := 124) (by decide +kernel)) (by decide +kernel)
theorem mw_845 : (Cond.static ({ cls := "SoupOrHorses", name := "isDistance", desc := "(I)Z" } : Jvm.MethodName)) ∈ WS := tb_4 (List.mem_of_getElem? (i := 125) (by decide +kernel)) (by decide +kernel)
theorem ls_X9_308 : LSt RX9 308 mX9_isDistance 1 := ⟨lc_X9_isDistance, mw_844, mw_845⟩
theorem mw_847 : (Cond.methodLink "SoupOrHorses" (311 : Nat) ({ cls := "SoupOrHorses$Likeness", name := "fewestChanges", desc := "(LSoupOrHorses$Camp;II)I" } : Jvm.MethodName)) ∈ WS := tb_4 (List.mem_of_getElem? (i := 127) (by decide +kernel)) (by decide +kernel)
theorem mw_848 : (Cond.static ({ cls := "SoupOrHorses$Likeness", name := "fewestChanges", desc := "(LSoupOrHorses$Camp;II)I" } : Jvm.MethodName)) ∈ WS := tb_4 (List.mem_of_getElem? (i := 128) (by decide +kernel)) (by decide +kernel)
theorem ls_X9_311 : LSt RX9 311 mX4_fewestChanges 3 := ⟨lc_X4_fewestChanges, mw_847, mw_848⟩
theorem mw_850 : (Cond.methodLink "SoupOrHorses$Likeness" (53 : Nat) ({ cls := "SoupOrHorses$Likeness", name := "countRows", desc := "(I)I" } : Jvm.MethodName)) ∈ WS := tb_4 (List.mem_of_getElem? (i := 130) (by decide +kernel)) (by decide +kernel)
theorem mw_851 : (Cond.static ({ cls := "SoupOrHorses$Likeness", name := "countRows", desc := "(I)I" } : Jvm.MethodName)) ∈ WS := tb_4 (List.mem_of_getElem? (i := 131) (by decide +kernel)) (by decide +kernel)
theorem ls_X4_53 : LSt RX4 53 mX4_countRows 1 := ⟨lc_X4_countRows, mw_850, mw_851⟩
theorem mw_853 : (Cond.methodLink "SoupOrHorses$Likeness" (56 : Nat) ({ cls := "SoupOrHorses$Likeness", name := "packedRow", desc := "(II)I" } : Jvm.MethodName)) ∈ WS := tb_4 (List.mem_of_getElem? (i := 133) (by decide +kernel)) (by decide +kernel)
theorem mw_854 : (Cond.static ({ cls := "SoupOrHorses$Likeness", name := "packedRow", desc := "(II)I" } : Jvm.MethodName)) ∈ WS := tb_4 (List.mem_of_getElem? (i := 134) (by decide +kernel)) (by decide +kernel)
theorem ls_X4_56 : LSt RX4 56 mX4_packedRow 2 := ⟨lc_X4_packedRow, mw_853, mw_854⟩
theorem mw_856 : (Cond.methodLink "SoupOrHorses$Likeness" (50 : Nat) ({ cls := "SoupOrHorses$Camp", name := "packedNote", desc := "(II)I" } : Jvm.MethodName)) ∈ WS := tb_4 (List.mem_of_getElem? (i := 136) (by decide +kernel)) (by decide +kernel)
theorem ls_X4_50 : LSt RX4 50 mX0_packedNote 2 := ⟨lc_X0_packedNote, mw_856, mw_384⟩
theorem mw_859 : (Cond.selects "SoupOrHorses" ({ cls := "SoupOrHorses", name := "alike", desc := "(I)I" } : Jvm.MethodName) ({ cls := "SoupOrHorses", name := "alike", desc := "(I)I" } : Jvm.MethodName)) ∈ WS := tb_4 (List.mem_of_getElem? (i := 139) (by decide +kernel)) (by decide +kernel)
theorem mw_857 : (Cond.methodLink "SoupOrHorsesLaw" (153 : Nat) ({ cls := "SoupOrHorses", name := "alike", desc := "(I)I" } : Jvm.MethodName)) ∈ WS := tb_4 (List.mem_of_getElem? (i := 137) (by decide +kernel)) (by decide +kernel)
theorem mw_858 : (Cond.instanceMethod ({ cls := "SoupOrHorses", name := "alike", desc := "(I)I" } : Jvm.MethodName)) ∈ WS := tb_4 (List.mem_of_getElem? (i := 138) (by decide +kernel)) (by decide +kernel)
theorem lv_L_153 : LV RL 153 mX9_alike 1 := ⟨lc_X9_alike, mw_857, mw_858, mw_859⟩
theorem mw_861 : (Cond.methodLink "SoupOrHorses" (314 : Nat) ({ cls := "SoupOrHorses$Likeness", name := "nearestPair", desc := "(LSoupOrHorses$Camp;)I" } : Jvm.MethodName)) ∈ WS := tb_4 (List.mem_of_getElem? (i := 141) (by decide +kernel)) (by decide +kernel)
theorem mw_862 : (Cond.static ({ cls := "SoupOrHorses$Likeness", name := "nearestPair", desc := "(LSoupOrHorses$Camp;)I" } : Jvm.MethodName)) ∈ WS := tb_4 (List.mem_of_getElem? (i := 142) (by decide +kernel)) (by decide +kernel)
theorem ls_X9_314 : LSt RX9 314 mX4_nearestPair 1 := ⟨lc_X4_nearestPair, mw_861, mw_862⟩
theorem mw_864 : (Cond.methodLink "SoupOrHorses" (317 : Nat) ({ cls := "SoupOrHorses$Likeness", name := "pairDistance", desc := "(LSoupOrHorses$Camp;I)I" } : Jvm.MethodName)) ∈ WS := tb_4 (List.mem_of_getElem? (i := 144) (by decide +kernel)) (by decide +kernel)
theorem mw_865 : (Cond.static ({ cls := "SoupOrHorses$Likeness", name := "pairDistance", desc := "(LSoupOrHorses$Camp;I)I" } : Jvm.MethodName)) ∈ WS := tb_4 (List.mem_of_getElem? (i := 145) (by decide +kernel)) (by decide +kernel)
theorem ls_X9_317 : LSt RX9 317 mX4_pairDistance 2 := ⟨lc_X4_pairDistance, mw_864, mw_865⟩
theorem mw_869 : (Cond.selects "SoupOrHorses" ({ cls := "SoupOrHorses", name := "mixed", desc := "(II)I" } : Jvm.MethodName) ({ cls := "SoupOrHorses", name := "mixed", desc := "(II)I" } : Jvm.MethodName)) ∈ WS := tb_4 (List.mem_of_getElem? (i := 149) (by decide +kernel)) (by decide +kernel)
theorem mw_867 : (Cond.methodLink "SoupOrHorsesLaw" (157 : Nat) ({ cls := "SoupOrHorses", name := "mixed", desc := "(II)I" } : Jvm.MethodName)) ∈ WS := tb_4 (List.mem_of_getElem? (i := 147) (by decide +kernel)) (by decide +kernel)
theorem mw_868 : (Cond.instanceMethod ({ cls := "SoupOrHorses", name := "mixed", desc := "(II)I" } : Jvm.MethodName)) ∈ WS := tb_4 (List.mem_of_getElem? (i := 148) (by decide +kernel)) (by decide +kernel)
theorem lv_L_157 : LV RL 157 mX9_mixed 2 := ⟨lc_X9_mixed, mw_867, mw_868, mw_869⟩
theorem mw_871 : (Cond.methodLink "SoupOrHorses" (321 : Nat) ({ cls := "SoupOrHorses$Sense", name := "countMixed", desc := "(LSoupOrHorses$Camp;LSoupOrHorses$Hearing;I)I" } : Jvm.MethodName)) ∈ WS := tb_4 (List.mem_of_getElem? (i := 151) (by decide +kernel)) (by decide +kernel)
theorem mw_872 : (Cond.static ({ cls := "SoupOrHorses$Sense", name := "countMixed", desc := "(LSoupOrHorses$Camp;LSoupOrHorses$Hearing;I)I" } : Jvm.MethodName)) ∈ WS := tb_4 (List.mem_of_getElem? (i := 152) (by decide +kernel)) (by decide +kernel)
theorem ls_X9_321 : LSt RX9 321 mX6_countMixed 3 := ⟨lc_X6_countMixed, mw_871, mw_872⟩
theorem mw_874 : (Cond.methodLink "SoupOrHorses$Sense" (108 : Nat) ({ cls := "SoupOrHorses$Sense", name := "areMixed", desc := "(LSoupOrHorses$Camp;LSoupOrHorses$Hearing;III)Z" } : Jvm.MethodName)) ∈ WS := tb_4 (List.mem_of_getElem? (i := 154) (by decide +kernel)) (by decide +kernel)
theorem mw_875 : (Cond.static ({ cls := "SoupOrHorses$Sense", name := "areMixed", desc := "(LSoupOrHorses$Camp;LSoupOrHorses$Hearing;III)Z" } : Jvm.MethodName)) ∈ WS := tb_4 (List.mem_of_getElem? (i := 155) (by decide +kernel)) (by decide +kernel)
theorem ls_X6_108 : LSt RX6 108 mX6_areMixed 5 := ⟨lc_X6_areMixed, mw_874, mw_875⟩
theorem mw_877 : (Cond.methodLink "SoupOrHorses" (324 : Nat) ({ cls := "SoupOrHorses$Sense", name := "firstMixed", desc := "(LSoupOrHorses$Camp;LSoupOrHorses$Hearing;I)I" } : Jvm.MethodName)) ∈ WS := tb_4 (List.mem_of_getElem? (i := 157) (by decide +kernel)) (by decide +kernel)
theorem mw_878 : (Cond.static ({ cls := "SoupOrHorses$Sense", name := "firstMixed", desc := "(LSoupOrHorses$Camp;LSoupOrHorses$Hearing;I)I" } : Jvm.MethodName)) ∈ WS := tb_4 (List.mem_of_getElem? (i := 158) (by decide +kernel)) (by decide +kernel)
theorem ls_X9_324 : LSt RX9 324 mX6_firstMixed 3 := ⟨lc_X6_firstMixed, mw_877, mw_878⟩
theorem mw_882 : (Cond.selects "SoupOrHorses" ({ cls := "SoupOrHorses", name := "fresh", desc := "(II)I" } : Jvm.MethodName) ({ cls := "SoupOrHorses", name := "fresh", desc := "(II)I" } : Jvm.MethodName)) ∈ WS := tb_4 (List.mem_of_getElem? (i := 162) (by decide +kernel)) (by decide +kernel)
theorem mw_880 : (Cond.methodLink "SoupOrHorsesLaw" (161 : Nat) ({ cls := "SoupOrHorses", name := "fresh", desc := "(II)I" } : Jvm.MethodName)) ∈ WS := tb_4 (List.mem_of_getElem? (i := 160) (by decide +kernel)) (by decide +kernel)
theorem mw_881 : (Cond.instanceMethod ({ cls := "SoupOrHorses", name := "fresh", desc := "(II)I" } : Jvm.MethodName)) ∈ WS := tb_4 (List.mem_of_getElem? (i := 161) (by decide +kernel)) (by decide +kernel)
theorem lv_L_161 : LV RL 161 mX9_fresh 2 := ⟨lc_X9_fresh, mw_880, mw_881, mw_882⟩
theorem mw_884 : (Cond.methodLink "SoupOrHorses" (327 : Nat) ({ cls := "SoupOrHorses$Likeness", name := "firstFresh", desc := "(LSoupOrHorses$Camp;II)I" } : Jvm.MethodName)) ∈ WS := tb_4 (List.mem_of_getElem? (i := 164) (by decide +kernel)) (by decide +kernel)
theorem mw_885 : (Cond.static ({ cls := "SoupOrHorses$Likeness", name := "firstFresh", desc := "(LSoupOrHorses$Camp;II)I" } : Jvm.MethodName)) ∈ WS := tb_4 (List.mem_of_getElem? (i := 165) (by decide +kernel)) (by decide +kernel)
theorem ls_X9_327 : LSt RX9 327 mX4_firstFresh 3 := ⟨lc_X4_firstFresh, mw_884, mw_885⟩
theorem mw_889 : (Cond.selects "SoupOrHorses" ({ cls := "SoupOrHorses", name := "keep", desc := "(I)I" } : Jvm.MethodName) ({ cls := "SoupOrHorses", name := "keep", desc := "(I)I" } : Jvm.MethodName)) ∈ WS := tb_4 (List.mem_of_getElem? (i := 169) (by decide +kernel)) (by decide +kernel)
theorem mw_887 : (Cond.methodLink "SoupOrHorsesLaw" (165 : Nat) ({ cls := "SoupOrHorses", name := "keep", desc := "(I)I" } : Jvm.MethodName)) ∈ WS := tb_4 (List.mem_of_getElem? (i := 167) (by decide +kernel)) (by decide +kernel)
theorem mw_888 : (Cond.instanceMethod ({ cls := "SoupOrHorses", name := "keep", desc := "(I)I" } : Jvm.MethodName)) ∈ WS := tb_4 (List.mem_of_getElem? (i := 168) (by decide +kernel)) (by decide +kernel)
theorem lv_L_165 : LV RL 165 mX9_keep 1 := ⟨lc_X9_keep, mw_887, mw_888, mw_889⟩
theorem mw_893 : (Cond.selects "SoupOrHorses$Likeness" ({ cls := "SoupOrHorses$Likeness", name := "bestSet", desc := "(LSoupOrHorses$Camp;I)I" } : Jvm.MethodName) ({ cls := "SoupOrHorses$Likeness", name := "bestSet", desc := "(LSoupOrHorses$Camp;I)I" } : Jvm.MethodName)) ∈ WS := tb_4 (List.mem_of_getElem? (i := 173) (by decide +kernel)) (by decide +kernel)
theorem mw_891 : (Cond.methodLink "SoupOrHorses" (330 : Nat) ({ cls := "SoupOrHorses$Likeness", name := "bestSet", desc := "(LSoupOrHorses$Camp;I)I" } : Jvm.MethodName)) ∈ WS := tb_4 (List.mem_of_getElem? (i := 171) (by decide +kernel)) (by decide +kernel)
theorem mw_892 : (Cond.instanceMethod ({ cls := "SoupOrHorses$Likeness", name := "bestSet", desc := "(LSoupOrHorses$Camp;I)I" } : Jvm.MethodName)) ∈ WS := tb_4 (List.mem_of_getElem? (i := 172) (by decide +kernel)) (by decide +kernel)
theorem lv_X9_330 : LV RX9 330 mX4_bestSet 2 := ⟨lc_X4_bestSet, mw_891, mw_892, mw_893⟩
theorem ms_6 : Cond.selects yX4_findTooNear.cls yX4_findTooNear yX4_findTooNear ∈ WS := WS_of (List.mem_append_left _ (List.mem_of_getElem? (i := 6) (by decide +kernel))) (by decide +kernel)
theorem mw_895 : (Cond.methodLink "SoupOrHorses$Likeness" (59 : Nat) ({ cls := "SoupOrHorses$Likeness", name := "findTooNear", desc := "(LSoupOrHorses$Camp;I)V" } : Jvm.MethodName)) ∈ WS := tb_4 (List.mem_of_getElem? (i := 175) (by decide +kernel)) (by decide +kernel)
theorem mw_897 : (Cond.instanceMethod ({ cls := "SoupOrHorses$Likeness", name := "findTooNear", desc := "(LSoupOrHorses$Camp;I)V" } : Jvm.MethodName)) ∈ WS := tb_4 (List.mem_of_getElem? (i := 177) (by decide +kernel)) (by decide +kernel)
theorem lv_X4_59 : LV RX4 59 mX4_findTooNear 2 := ⟨lc_X4_findTooNear, mw_895, mw_897, ms_6⟩
theorem ms_7 : Cond.selects yX4_usesIfKept.cls yX4_usesIfKept yX4_usesIfKept ∈ WS := WS_of (List.mem_append_left _ (List.mem_of_getElem? (i := 7) (by decide +kernel))) (by decide +kernel)
theorem mw_899 : (Cond.methodLink "SoupOrHorses$Likeness" (63 : Nat) ({ cls := "SoupOrHorses$Likeness", name := "usesIfKept", desc := "(LSoupOrHorses$Camp;I)I" } : Jvm.MethodName)) ∈ WS := tb_4 (List.mem_of_getElem? (i := 179) (by decide +kernel)) (by decide +kernel)
theorem mw_901 : (Cond.instanceMethod ({ cls := "SoupOrHorses$Likeness", name := "usesIfKept", desc := "(LSoupOrHorses$Camp;I)I" } : Jvm.MethodName)) ∈ WS := tb_4 (List.mem_of_getElem? (i := 181) (by decide +kernel)) (by decide +kernel)
theorem lv_X4_63 : LV RX4 63 mX4_usesIfKept 2 := ⟨lc_X4_usesIfKept, mw_899, mw_901, ms_7⟩
theorem mw_903 : (Cond.methodLink "SoupOrHorses$Likeness" (67 : Nat) ({ cls := "SoupOrHorses$Camp", name := "useOf", desc := "(I)I" } : Jvm.MethodName)) ∈ WS := tb_4 (List.mem_of_getElem? (i := 183) (by decide +kernel)) (by decide +kernel)
theorem lv_X4_67 : LV RX4 67 mX0_useOf 1 := ⟨lc_X0_useOf, mw_903, mw_429, mw_430⟩
theorem mw_906 : (Cond.selects "SoupOrHorses" ({ cls := "SoupOrHorses", name := "does", desc := "(II)I" } : Jvm.MethodName) ({ cls := "SoupOrHorses", name := "does", desc := "(II)I" } : Jvm.MethodName)) ∈ WS := tb_4 (List.mem_of_getElem? (i := 186) (by decide +kernel)) (by decide +kernel)
theorem mw_904 : (Cond.methodLink "SoupOrHorsesLaw" (169 : Nat) ({ cls := "SoupOrHorses", name := "does", desc := "(II)I" } : Jvm.MethodName)) ∈ WS := tb_4 (List.mem_of_getElem? (i := 184) (by decide +kernel)) (by decide +kernel)
theorem mw_905 : (Cond.instanceMethod ({ cls := "SoupOrHorses", name := "does", desc := "(II)I" } : Jvm.MethodName)) ∈ WS := tb_4 (List.mem_of_getElem? (i := 185) (by decide +kernel)) (by decide +kernel)
theorem lv_L_169 : LV RL 169 mX9_does 2 := ⟨lc_X9_does, mw_904, mw_905, mw_906⟩
theorem mw_910 : (Cond.selects "SoupOrHorses$Crowd" ({ cls := "SoupOrHorses$Crowd", name := "hearAndDo", desc := "(LSoupOrHorses$Camp;LSoupOrHorses$Hearing;I)V" } : Jvm.MethodName) ({ cls := "SoupOrHorses$Crowd", name := "hearAndDo", desc := "(LSoupOrHorses$Camp;LSoupOrHorses$Hearing;I)V" } : Jvm.MethodName)) ∈ WS := tb_4 (List.mem_of_getElem? (i := 190) (by decide +kernel)) (by decide +kernel)
theorem mw_908 : (Cond.methodLink "SoupOrHorses" (333 : Nat) ({ cls := "SoupOrHorses$Crowd", name := "hearAndDo", desc := "(LSoupOrHorses$Camp;LSoupOrHorses$Hearing;I)V" } : Jvm.MethodName)) ∈ WS := tb_4 (List.mem_of_getElem? (i := 188) (by decide +kernel)) (by decide +kernel)
theorem mw_909 : (Cond.instanceMethod ({ cls := "SoupOrHorses$Crowd", name := "hearAndDo", desc := "(LSoupOrHorses$Camp;LSoupOrHorses$Hearing;I)V" } : Jvm.MethodName)) ∈ WS := tb_4 (List.mem_of_getElem? (i := 189) (by decide +kernel)) (by decide +kernel)
theorem lv_X9_333 : LV RX9 333 mX1_hearAndDo 3 := ⟨lc_X1_hearAndDo, mw_908, mw_909, mw_910⟩
theorem ms_8 : Cond.selects yX1_hearAll.cls yX1_hearAll yX1_hearAll ∈ WS := WS_of (List.mem_append_left _ (List.mem_of_getElem? (i := 8) (by decide +kernel))) (by decide +kernel)
theorem mw_912 : (Cond.methodLink "SoupOrHorses$Crowd" (30 : Nat) ({ cls := "SoupOrHorses$Crowd", name := "hearAll", desc := "(LSoupOrHorses$Camp;LSoupOrHorses$Hearing;I)V" } : Jvm.MethodName)) ∈ WS := tb_4 (List.mem_of_getElem? (i := 192) (by decide +kernel)) (by decide +kernel)
theorem mw_914 : (Cond.instanceMethod ({ cls := "SoupOrHorses$Crowd", name := "hearAll", desc := "(LSoupOrHorses$Camp;LSoupOrHorses$Hearing;I)V" } : Jvm.MethodName)) ∈ WS := tb_4 (List.mem_of_getElem? (i := 194) (by decide +kernel)) (by decide +kernel)
theorem lv_X1_30 : LV RX1 30 mX1_hearAll 3 := ⟨lc_X1_hearAll, mw_912, mw_914, ms_8⟩
theorem mw_916 : (Cond.methodLink "SoupOrHorses$Crowd" (42 : Nat) ({ cls := "java/lang/Math", name := "min", desc := "(II)I" } : Jvm.MethodName)) ∈ WS := tb_4 (List.mem_of_getElem? (i := 196) (by decide +kernel)) (by decide +kernel)
theorem ls_X1_42 : LSt RX1 42 mJ9_min_7cf53 2 := ⟨lc_J9_min_7cf53, mw_916, mw_234⟩
theorem mw_917 : (Cond.methodLink "SoupOrHorses$Crowd" (48 : Nat) ({ cls := "java/lang/Math", name := "max", desc := "(II)I" } : Jvm.MethodName)) ∈ WS := tb_4 (List.mem_of_getElem? (i := 197) (by decide +kernel)) (by decide +kernel)
theorem ls_X1_48 : LSt RX1 48 mJ9_max_7cf53 2 := ⟨lc_J9_max_7cf53, mw_917, mw_237⟩
theorem mw_918 : (Cond.methodLink "SoupOrHorses$Crowd" (51 : Nat) ({ cls := "SoupOrHorses$Camp", name := "earOfMan", desc := "(I)I" } : Jvm.MethodName)) ∈ WS := tb_4 (List.mem_of_getElem? (i := 198) (by decide +kernel)) (by decide +kernel)
theorem lv_X1_51 : LV RX1 51 mX0_earOfMan 1 := ⟨lc_X0_earOfMan, mw_918, mw_653, mw_654⟩
theorem mw_919 : (Cond.methodLink "SoupOrHorses$Crowd" (55 : Nat) ({ cls := "SoupOrHorses$Hearing", name := "takeCall", desc := "(LSoupOrHorses$Camp;II)V" } : Jvm.MethodName)) ∈ WS := tb_4 (List.mem_of_getElem? (i := 199) (by decide +kernel)) (by decide +kernel)
theorem lv_X1_55 : LV RX1 55 mX2_takeCall 3 := ⟨lc_X2_takeCall, mw_919, mw_758, mw_759⟩
theorem mw_920 : (Cond.methodLink "SoupOrHorses$Crowd" (61 : Nat) ({ cls := "SoupOrHorses$Sense", name := "guessOf", desc := "(LSoupOrHorses$Camp;LSoupOrHorses$Hearing;I)I" } : Jvm.MethodName)) ∈ WS := tb_4 (List.mem_of_getElem? (i := 200) (by decide +kernel)) (by decide +kernel)
theorem ls_X1_61 : LSt RX1 61 mX6_guessOf 3 := ⟨lc_X6_guessOf, mw_920, mw_730⟩
theorem mw_921 : (Cond.methodLink "SoupOrHorses$Crowd" (67 : Nat) ({ cls := "SoupOrHorses$Camp", name := "useOf", desc := "(I)I" } : Jvm.MethodName)) ∈ WS := tb_4 (List.mem_of_getElem? (i := 201) (by decide +kernel)) (by decide +kernel)
theorem lv_X1_67 : LV RX1 67 mX0_useOf 1 := ⟨lc_X0_useOf, mw_921, mw_429, mw_430⟩
theorem mw_922 : (Cond.methodLink "SoupOrHorses$Crowd" (70 : Nat) ({ cls := "SoupOrHorses$Sense", name := "usesThatFit", desc := "(LSoupOrHorses$Camp;LSoupOrHorses$Hearing;I)I" } : Jvm.MethodName)) ∈ WS := tb_4 (List.mem_of_getElem? (i := 202) (by decide +kernel)) (by decide +kernel)
theorem ls_X1_70 : LSt RX1 70 mX6_usesThatFit 3 := ⟨lc_X6_usesThatFit, mw_922, mw_720⟩
theorem mw_923 : (Cond.methodLink "SoupOrHorses$Crowd" (73 : Nat) ({ cls := "SoupOrHorses$Sense", name := "perThousand", desc := "(II)I" } : Jvm.MethodName)) ∈ WS := tb_4 (List.mem_of_getElem? (i := 203) (by decide +kernel)) (by decide +kernel)
theorem ls_X1_73 : LSt RX1 73 mX6_perThousand 2 := ⟨lc_X6_perThousand, mw_923, mw_723⟩
theorem ms_9 : Cond.selects yX1_doAll.cls yX1_doAll yX1_doAll ∈ WS := WS_of (List.mem_append_left _ (List.mem_of_getElem? (i := 9) (by decide +kernel))) (by decide +kernel)
theorem mw_924 : (Cond.methodLink "SoupOrHorses$Crowd" (37 : Nat) ({ cls := "SoupOrHorses$Crowd", name := "doAll", desc := "(LSoupOrHorses$Camp;I)V" } : Jvm.MethodName)) ∈ WS := tb_4 (List.mem_of_getElem? (i := 204) (by decide +kernel)) (by decide +kernel)
theorem mw_926 : (Cond.instanceMethod ({ cls := "SoupOrHorses$Crowd", name := "doAll", desc := "(LSoupOrHorses$Camp;I)V" } : Jvm.MethodName)) ∈ WS := tb_4 (List.mem_of_getElem? (i := 206) (by decide +kernel)) (by decide +kernel)
theorem lv_X1_37 : LV RX1 37 mX1_doAll 2 := ⟨lc_X1_doAll, mw_924, mw_926, ms_9⟩
theorem mw_928 : (Cond.methodLink "SoupOrHorses$Crowd" (76 : Nat) ({ cls := "java/util/Arrays", name := "fill", desc := "([II)V" } : Jvm.MethodName)) ∈ WS := tb_4 (List.mem_of_getElem? (i := 208) (by decide +kernel)) (by decide +kernel)
theorem mw_929 : (Cond.static ({ cls := "java/util/Arrays", name := "fill", desc := "([II)V" } : Jvm.MethodName)) ∈ WS := tb_4 (List.mem_of_getElem? (i := 209) (by decide +kernel)) (by decide +kernel)
theorem ls_X1_76 : LSt RX1 76 mJ7_fill_53178 2 := ⟨lc_J7_fill_53178, mw_928, mw_929⟩
theorem mw_931 : (Cond.methodLink "SoupOrHorses$Crowd" (82 : Nat) ({ cls := "SoupOrHorses$Camp", name := "lookOf", desc := "(I)I" } : Jvm.MethodName)) ∈ WS := tb_4 (List.mem_of_getElem? (i := 211) (by decide +kernel)) (by decide +kernel)
theorem lv_X1_82 : LV RX1 82 mX0_lookOf 1 := ⟨lc_X0_lookOf, mw_931, mw_657, mw_658⟩
theorem ms_10 : Cond.selects yX1_mostDone.cls yX1_mostDone yX1_mostDone ∈ WS := WS_of (List.mem_append_left _ (List.mem_of_getElem? (i := 10) (by decide +kernel))) (by decide +kernel)
theorem mw_932 : (Cond.methodLink "SoupOrHorses$Crowd" (85 : Nat) ({ cls := "SoupOrHorses$Crowd", name := "mostDone", desc := "()I" } : Jvm.MethodName)) ∈ WS := tb_4 (List.mem_of_getElem? (i := 212) (by decide +kernel)) (by decide +kernel)
theorem mw_934 : (Cond.instanceMethod ({ cls := "SoupOrHorses$Crowd", name := "mostDone", desc := "()I" } : Jvm.MethodName)) ∈ WS := tb_4 (List.mem_of_getElem? (i := 214) (by decide +kernel)) (by decide +kernel)
theorem lv_X1_85 : LV RX1 85 mX1_mostDone 0 := ⟨lc_X1_mostDone, mw_932, mw_934, ms_10⟩
theorem ms_11 : Cond.selects yX1_countDeed.cls yX1_countDeed yX1_countDeed ∈ WS := WS_of (List.mem_append_left _ (List.mem_of_getElem? (i := 11) (by decide +kernel))) (by decide +kernel)
theorem mw_936 : (Cond.methodLink "SoupOrHorses$Crowd" (89 : Nat) ({ cls := "SoupOrHorses$Crowd", name := "countDeed", desc := "(I)V" } : Jvm.MethodName)) ∈ WS := tb_4 (List.mem_of_getElem? (i := 216) (by decide +kernel)) (by decide +kernel)
theorem mw_938 : (Cond.instanceMethod ({ cls := "SoupOrHorses$Crowd", name := "countDeed", desc := "(I)V" } : Jvm.MethodName)) ∈ WS := tb_4 (List.mem_of_getElem? (i := 218) (by decide +kernel)) (by decide +kernel)
theorem lv_X1_89 : LV RX1 89 mX1_countDeed 1 := ⟨lc_X1_countDeed, mw_936, mw_938, ms_11⟩
theorem mw_942 : (Cond.selects "SoupOrHorses$Crowd" ({ cls := "SoupOrHorses$Crowd", name := "deedOf", desc := "(I)I" } : Jvm.MethodName) ({ cls := "SoupOrHorses$Crowd", name := "deedOf", desc := "(I)I" } : Jvm.MethodName)) ∈ WS := tb_4 (List.mem_of_getElem? (i := 222) (by decide +kernel)) (by decide +kernel)
theorem mw_940 : (Cond.methodLink "SoupOrHorses" (337 : Nat) ({ cls := "SoupOrHorses$Crowd", name := "deedOf", desc := "(I)I" } : Jvm.MethodName)) ∈ WS := tb_4 (List.mem_of_getElem? (i := 220) (by decide +kernel)) (by decide +kernel)
theorem mw_941 : (Cond.instanceMethod ({ cls := "SoupOrHorses$Crowd", name := "deedOf", desc := "(I)I" } : Jvm.MethodName)) ∈ WS := tb_4 (List.mem_of_getElem? (i := 221) (by decide +kernel)) (by decide +kernel)
theorem lv_X9_337 : LV RX9 337 mX1_deedOf 1 := ⟨lc_X1_deedOf, mw_940, mw_941, mw_942⟩
theorem mw_946 : (Cond.selects "SoupOrHorses" ({ cls := "SoupOrHorses", name := "right", desc := "(I)I" } : Jvm.MethodName) ({ cls := "SoupOrHorses", name := "right", desc := "(I)I" } : Jvm.MethodName)) ∈ WS := tb_4 (List.mem_of_getElem? (i := 226) (by decide +kernel)) (by decide +kernel)
theorem mw_944 : (Cond.methodLink "SoupOrHorsesLaw" (173 : Nat) ({ cls := "SoupOrHorses", name := "right", desc := "(I)I" } : Jvm.MethodName)) ∈ WS := tb_4 (List.mem_of_getElem? (i := 224) (by decide +kernel)) (by decide +kernel)
theorem mw_945 : (Cond.instanceMethod ({ cls := "SoupOrHorses", name := "right", desc := "(I)I" } : Jvm.MethodName)) ∈ WS := tb_4 (List.mem_of_getElem? (i := 225) (by decide +kernel)) (by decide +kernel)
theorem lv_L_173 : LV RL 173 mX9_right 1 := ⟨lc_X9_right, mw_944, mw_945, mw_946⟩
theorem mw_950 : (Cond.selects "SoupOrHorses$Crowd" ({ cls := "SoupOrHorses$Crowd", name := "countDoing", desc := "(I)I" } : Jvm.MethodName) ({ cls := "SoupOrHorses$Crowd", name := "countDoing", desc := "(I)I" } : Jvm.MethodName)) ∈ WS := tb_4 (List.mem_of_getElem? (i := 230) (by decide +kernel)) (by decide +kernel)
theorem mw_948 : (Cond.methodLink "SoupOrHorses" (340 : Nat) ({ cls := "SoupOrHorses$Crowd", name := "countDoing", desc := "(I)I" } : Jvm.MethodName)) ∈ WS := tb_4 (List.mem_of_getElem? (i := 228) (by decide +kernel)) (by decide +kernel)
theorem mw_949 : (Cond.instanceMethod ({ cls := "SoupOrHorses$Crowd", name := "countDoing", desc := "(I)I" } : Jvm.MethodName)) ∈ WS := tb_4 (List.mem_of_getElem? (i := 229) (by decide +kernel)) (by decide +kernel)
theorem lv_X9_340 : LV RX9 340 mX1_countDoing 1 := ⟨lc_X1_countDoing, mw_948, mw_949, mw_950⟩
theorem mw_952 : (Cond.methodLink "SoupOrHorses$Crowd" (93 : Nat) ({ cls := "SoupOrHorses$Crowd", name := "deedOf", desc := "(I)I" } : Jvm.MethodName)) ∈ WS := tb_4 (List.mem_of_getElem? (i := 232) (by decide +kernel)) (by decide +kernel)
theorem lv_X1_93 : LV RX1 93 mX1_deedOf 1 := ⟨lc_X1_deedOf, mw_952, mw_941, mw_942⟩
theorem mw_955 : (Cond.selects "SoupOrHorses" ({ cls := "SoupOrHorses", name := "leads", desc := "(I)I" } : Jvm.MethodName) ({ cls := "SoupOrHorses", name := "leads", desc := "(I)I" } : Jvm.MethodName)) ∈ WS := tb_4 (List.mem_of_getElem? (i := 235) (by decide +kernel)) (by decide +kernel)
theorem mw_953 : (Cond.methodLink "SoupOrHorsesLaw" (177 : Nat) ({ cls := "SoupOrHorses", name := "leads", desc := "(I)I" } : Jvm.MethodName)) ∈ WS := tb_4 (List.mem_of_getElem? (i := 233) (by decide +kernel)) (by decide +kernel)
theorem mw_954 : (Cond.instanceMethod ({ cls := "SoupOrHorses", name := "leads", desc := "(I)I" } : Jvm.MethodName)) ∈ WS := tb_4 (List.mem_of_getElem? (i := 234) (by decide +kernel)) (by decide +kernel)
theorem lv_L_177 : LV RL 177 mX9_leads 1 := ⟨lc_X9_leads, mw_953, mw_954, mw_955⟩
theorem mw_959 : (Cond.selects "SoupOrHorses$Crowd" ({ cls := "SoupOrHorses$Crowd", name := "firstNotDoing", desc := "(I)I" } : Jvm.MethodName) ({ cls := "SoupOrHorses$Crowd", name := "firstNotDoing", desc := "(I)I" } : Jvm.MethodName)) ∈ WS := tb_4 (List.mem_of_getElem? (i := 239) (by decide +kernel)) (by decide +kernel)
theorem mw_957 : (Cond.methodLink "SoupOrHorses" (343 : Nat) ({ cls := "SoupOrHorses$Crowd", name := "firstNotDoing", desc := "(I)I" } : Jvm.MethodName)) ∈ WS := tb_4 (List.mem_of_getElem? (i := 237) (by decide +kernel)) (by decide +kernel)
theorem mw_958 : (Cond.instanceMethod ({ cls := "SoupOrHorses$Crowd", name := "firstNotDoing", desc := "(I)I" } : Jvm.MethodName)) ∈ WS := tb_4 (List.mem_of_getElem? (i := 238) (by decide +kernel)) (by decide +kernel)
theorem lv_X9_343 : LV RX9 343 mX1_firstNotDoing 1 := ⟨lc_X1_firstNotDoing, mw_957, mw_958, mw_959⟩
theorem mw_963 : (Cond.selects "SoupOrHorses" ({ cls := "SoupOrHorses", name := "follows", desc := "(I)I" } : Jvm.MethodName) ({ cls := "SoupOrHorses", name := "follows", desc := "(I)I" } : Jvm.MethodName)) ∈ WS := tb_5 (List.mem_of_getElem? (i := 3) (by decide +kernel)) (by decide +kernel)
theorem mw_961 : (Cond.methodLink "SoupOrHorsesLaw" (181 : Nat) ({ cls := "SoupOrHorses", name := "follows", desc := "(I)I" } : Jvm.MethodName)) ∈ WS := tb_5 (List.mem_of_getElem? (i := 1) (by decide +kernel)) (by decide +kernel)
theorem mw_962 : (Cond.instanceMethod ({ cls := "SoupOrHorses", name := "follows", desc := "(I)I" } : Jvm.MethodName)) ∈ WS := tb_5 (List.mem_of_getElem? (i := 2) (by decide +kernel)) (by decide +kernel)
theorem lv_L_181 : LV RL 181 mX9_follows 1 := ⟨lc_X9_follows, mw_961, mw_962, mw_963⟩
theorem mw_967 : (Cond.selects "SoupOrHorses$Crowd" ({ cls := "SoupOrHorses$Crowd", name := "notByGuess", desc := "()I" } : Jvm.MethodName) ({ cls := "SoupOrHorses$Crowd", name := "notByGuess", desc := "()I" } : Jvm.MethodName)) ∈ WS := tb_5 (List.mem_of_getElem? (i := 7) (by decide +kernel)) (by decide +kernel)
theorem mw_965 : (Cond.methodLink "SoupOrHorses" (346 : Nat) ({ cls := "SoupOrHorses$Crowd", name := "notByGuess", desc := "()I" } : Jvm.MethodName)) ∈ WS := tb_5 (List.mem_of_getElem? (i := 5) (by decide +kernel)) (by decide +kernel)
theorem mw_966 : (Cond.instanceMethod ({ cls := "SoupOrHorses$Crowd", name := "notByGuess", desc := "()I" } : Jvm.MethodName)) ∈ WS := tb_5 (List.mem_of_getElem? (i := 6) (by decide +kernel)) (by decide +kernel)
theorem lv_X9_346 : LV RX9 346 mX1_notByGuess 0 := ⟨lc_X1_notByGuess, mw_965, mw_966, mw_967⟩
theorem mw_971 : (Cond.selects "SoupOrHorses" ({ cls := "SoupOrHorses", name := "sureFor", desc := "(I)I" } : Jvm.MethodName) ({ cls := "SoupOrHorses", name := "sureFor", desc := "(I)I" } : Jvm.MethodName)) ∈ WS := tb_5 (List.mem_of_getElem? (i := 11) (by decide +kernel)) (by decide +kernel)
theorem mw_969 : (Cond.methodLink "SoupOrHorsesLaw" (185 : Nat) ({ cls := "SoupOrHorses", name := "sureFor", desc := "(I)I" } : Jvm.MethodName)) ∈ WS := tb_5 (List.mem_of_getElem? (i := 9) (by decide +kernel)) (by decide +kernel)
theorem mw_970 : (Cond.instanceMethod ({ cls := "SoupOrHorses", name := "sureFor", desc := "(I)I" } : Jvm.MethodName)) ∈ WS := tb_5 (List.mem_of_getElem? (i := 10) (by decide +kernel)) (by decide +kernel)
theorem lv_L_185 : LV RL 185 mX9_sureFor 1 := ⟨lc_X9_sureFor, mw_969, mw_970, mw_971⟩
theorem mw_975 : (Cond.selects "SoupOrHorses$Crowd" ({ cls := "SoupOrHorses$Crowd", name := "leastSure", desc := "(LSoupOrHorses$Camp;LSoupOrHorses$Hearing;I)I" } : Jvm.MethodName) ({ cls := "SoupOrHorses$Crowd", name := "leastSure", desc := "(LSoupOrHorses$Camp;LSoupOrHorses$Hearing;I)I" } : Jvm.MethodName)) ∈ WS := tb_5 (List.mem_of_getElem? (i := 15) (by decide +kernel)) (by decide +kernel)
theorem mw_973 : (Cond.methodLink "SoupOrHorses" (349 : Nat) ({ cls := "SoupOrHorses$Crowd", name := "leastSure", desc := "(LSoupOrHorses$Camp;LSoupOrHorses$Hearing;I)I" } : Jvm.MethodName)) ∈ WS := tb_5 (List.mem_of_getElem? (i := 13) (by decide +kernel)) (by decide +kernel)
theorem mw_974 : (Cond.instanceMethod ({ cls := "SoupOrHorses$Crowd", name := "leastSure", desc := "(LSoupOrHorses$Camp;LSoupOrHorses$Hearing;I)I" } : Jvm.MethodName)) ∈ WS := tb_5 (List.mem_of_getElem? (i := 14) (by decide +kernel)) (by decide +kernel)
theorem lv_X9_349 : LV RX9 349 mX1_leastSure 3 := ⟨lc_X1_leastSure, mw_973, mw_974, mw_975⟩
theorem mw_977 : (Cond.methodLink "SoupOrHorses$Crowd" (96 : Nat) ({ cls := "SoupOrHorses$Crowd", name := "countDoing", desc := "(I)I" } : Jvm.MethodName)) ∈ WS := tb_5 (List.mem_of_getElem? (i := 17) (by decide +kernel)) (by decide +kernel)
theorem lv_X1_96 : LV RX1 96 mX1_countDoing 1 := ⟨lc_X1_countDoing, mw_977, mw_949, mw_950⟩
theorem mw_980 : (Cond.selects "SoupOrHorses" ({ cls := "SoupOrHorses", name := "risk", desc := "(II)I" } : Jvm.MethodName) ({ cls := "SoupOrHorses", name := "risk", desc := "(II)I" } : Jvm.MethodName)) ∈ WS := tb_5 (List.mem_of_getElem? (i := 20) (by decide +kernel)) (by decide +kernel)
theorem mw_978 : (Cond.methodLink "SoupOrHorsesLaw" (189 : Nat) ({ cls := "SoupOrHorses", name := "risk", desc := "(II)I" } : Jvm.MethodName)) ∈ WS := tb_5 (List.mem_of_getElem? (i := 18) (by decide +kernel)) (by decide +kernel)
theorem mw_979 : (Cond.instanceMethod ({ cls := "SoupOrHorses", name := "risk", desc := "(II)I" } : Jvm.MethodName)) ∈ WS := tb_5 (List.mem_of_getElem? (i := 19) (by decide +kernel)) (by decide +kernel)
theorem lv_L_189 : LV RL 189 mX9_risk 2 := ⟨lc_X9_risk, mw_978, mw_979, mw_980⟩
theorem mw_982 : (Cond.methodLink "SoupOrHorses" (352 : Nat) ({ cls := "SoupOrHorses$Sense", name := "riskOf", desc := "(LSoupOrHorses$Camp;LSoupOrHorses$Hearing;II)I" } : Jvm.MethodName)) ∈ WS := tb_5 (List.mem_of_getElem? (i := 22) (by decide +kernel)) (by decide +kernel)
theorem ls_X9_352 : LSt RX9 352 mX6_riskOf 4 := ⟨lc_X6_riskOf, mw_982, mw_794⟩
theorem mw_985 : (Cond.selects "SoupOrHorses" ({ cls := "SoupOrHorses", name := "learn", desc := "(I)I" } : Jvm.MethodName) ({ cls := "SoupOrHorses", name := "learn", desc := "(I)I" } : Jvm.MethodName)) ∈ WS := tb_5 (List.mem_of_getElem? (i := 25) (by decide +kernel)) (by decide +kernel)
theorem mw_983 : (Cond.methodLink "SoupOrHorsesLaw" (193 : Nat) ({ cls := "SoupOrHorses", name := "learn", desc := "(I)I" } : Jvm.MethodName)) ∈ WS := tb_5 (List.mem_of_getElem? (i := 23) (by decide +kernel)) (by decide +kernel)
theorem mw_984 : (Cond.instanceMethod ({ cls := "SoupOrHorses", name := "learn", desc := "(I)I" } : Jvm.MethodName)) ∈ WS := tb_5 (List.mem_of_getElem? (i := 24) (by decide +kernel)) (by decide +kernel)
theorem lv_L_193 : LV RL 193 mX9_learn 1 := ⟨lc_X9_learn, mw_983, mw_984, mw_985⟩
theorem mw_989 : (Cond.selects "SoupOrHorses$Camp" ({ cls := "SoupOrHorses$Camp", name := "learnedAt", desc := "(I)I" } : Jvm.MethodName) ({ cls := "SoupOrHorses$Camp", name := "learnedAt", desc := "(I)I" } : Jvm.MethodName)) ∈ WS := tb_5 (List.mem_of_getElem? (i := 29) (by decide +kernel)) (by decide +kernel)
theorem mw_987 : (Cond.methodLink "SoupOrHorses" (355 : Nat) ({ cls := "SoupOrHorses$Camp", name := "learnedAt", desc := "(I)I" } : Jvm.MethodName)) ∈ WS := tb_5 (List.mem_of_getElem? (i := 27) (by decide +kernel)) (by decide +kernel)
theorem mw_988 : (Cond.instanceMethod ({ cls := "SoupOrHorses$Camp", name := "learnedAt", desc := "(I)I" } : Jvm.MethodName)) ∈ WS := tb_5 (List.mem_of_getElem? (i := 28) (by decide +kernel)) (by decide +kernel)
theorem lv_X9_355 : LV RX9 355 mX0_learnedAt 1 := ⟨lc_X0_learnedAt, mw_987, mw_988, mw_989⟩
theorem ms_12 : Cond.selects yX0_countLearnedAhead.cls yX0_countLearnedAhead yX0_countLearnedAhead ∈ WS := WS_of (List.mem_append_left _ (List.mem_of_getElem? (i := 12) (by decide +kernel))) (by decide +kernel)
theorem mw_991 : (Cond.methodLink "SoupOrHorses$Camp" (87 : Nat) ({ cls := "SoupOrHorses$Camp", name := "countLearnedAhead", desc := "(I)I" } : Jvm.MethodName)) ∈ WS := tb_5 (List.mem_of_getElem? (i := 31) (by decide +kernel)) (by decide +kernel)
theorem mw_993 : (Cond.instanceMethod ({ cls := "SoupOrHorses$Camp", name := "countLearnedAhead", desc := "(I)I" } : Jvm.MethodName)) ∈ WS := tb_5 (List.mem_of_getElem? (i := 33) (by decide +kernel)) (by decide +kernel)
theorem lv_X0_87 : LV RX0 87 mX0_countLearnedAhead 1 := ⟨lc_X0_countLearnedAhead, mw_991, mw_993, ms_12⟩
theorem mw_997 : (Cond.selects "SoupOrHorses" ({ cls := "SoupOrHorses", name := "nearest", desc := "(III)I" } : Jvm.MethodName) ({ cls := "SoupOrHorses", name := "nearest", desc := "(III)I" } : Jvm.MethodName)) ∈ WS := tb_5 (List.mem_of_getElem? (i := 37) (by decide +kernel)) (by decide +kernel)
theorem mw_995 : (Cond.methodLink "SoupOrHorsesLaw" (197 : Nat) ({ cls := "SoupOrHorses", name := "nearest", desc := "(III)I" } : Jvm.MethodName)) ∈ WS := tb_5 (List.mem_of_getElem? (i := 35) (by decide +kernel)) (by decide +kernel)
theorem mw_996 : (Cond.instanceMethod ({ cls := "SoupOrHorses", name := "nearest", desc := "(III)I" } : Jvm.MethodName)) ∈ WS := tb_5 (List.mem_of_getElem? (i := 36) (by decide +kernel)) (by decide +kernel)
theorem lv_L_197 : LV RL 197 mX9_nearest 3 := ⟨lc_X9_nearest, mw_995, mw_996, mw_997⟩
theorem mw_999 : (Cond.methodLink "SoupOrHorses" (358 : Nat) ({ cls := "SoupOrHorses$Sense", name := "nearestCall", desc := "(LSoupOrHorses$Camp;LSoupOrHorses$Hearing;)I" } : Jvm.MethodName)) ∈ WS := tb_5 (List.mem_of_getElem? (i := 39) (by decide +kernel)) (by decide +kernel)
theorem mw_1000 : (Cond.static ({ cls := "SoupOrHorses$Sense", name := "nearestCall", desc := "(LSoupOrHorses$Camp;LSoupOrHorses$Hearing;)I" } : Jvm.MethodName)) ∈ WS := tb_5 (List.mem_of_getElem? (i := 40) (by decide +kernel)) (by decide +kernel)
theorem ls_X9_358 : LSt RX9 358 mX6_nearestCall 2 := ⟨lc_X6_nearestCall, mw_999, mw_1000⟩
theorem mw_1002 : (Cond.methodLink "SoupOrHorses$Sense" (117 : Nat) ({ cls := "SoupOrHorses$Sense", name := "differences", desc := "(LSoupOrHorses$Camp;LSoupOrHorses$Hearing;I)I" } : Jvm.MethodName)) ∈ WS := tb_5 (List.mem_of_getElem? (i := 42) (by decide +kernel)) (by decide +kernel)
theorem mw_1003 : (Cond.static ({ cls := "SoupOrHorses$Sense", name := "differences", desc := "(LSoupOrHorses$Camp;LSoupOrHorses$Hearing;I)I" } : Jvm.MethodName)) ∈ WS := tb_5 (List.mem_of_getElem? (i := 43) (by decide +kernel)) (by decide +kernel)
theorem ls_X6_117 : LSt RX6 117 mX6_differences 3 := ⟨lc_X6_differences, mw_1002, mw_1003⟩
theorem mw_1005 : (Cond.methodLink "SoupOrHorses$Sense" (112 : Nat) ({ cls := "java/lang/Math", name := "abs", desc := "(I)I" } : Jvm.MethodName)) ∈ WS := tb_5 (List.mem_of_getElem? (i := 45) (by decide +kernel)) (by decide +kernel)
theorem mw_1006 : (Cond.static ({ cls := "java/lang/Math", name := "abs", desc := "(I)I" } : Jvm.MethodName)) ∈ WS := tb_5 (List.mem_of_getElem? (i := 46) (by decide +kernel)) (by decide +kernel)
theorem ls_X6_112 : LSt RX6 112 mJ9_abs_0f7a4 1 := ⟨lc_J9_abs_0f7a4, mw_1005, mw_1006⟩
theorem mw_1008 : (Cond.methodLink "SoupOrHorses" (362 : Nat) ({ cls := "SoupOrHorses$Sense", name := "differences", desc := "(LSoupOrHorses$Camp;LSoupOrHorses$Hearing;I)I" } : Jvm.MethodName)) ∈ WS := tb_5 (List.mem_of_getElem? (i := 48) (by decide +kernel)) (by decide +kernel)
theorem ls_X9_362 : LSt RX9 362 mX6_differences 3 := ⟨lc_X6_differences, mw_1008, mw_1003⟩
theorem mw_1011 : (Cond.selects "SoupOrHorses" ({ cls := "SoupOrHorses", name := "judge", desc := "(II)I" } : Jvm.MethodName) ({ cls := "SoupOrHorses", name := "judge", desc := "(II)I" } : Jvm.MethodName)) ∈ WS := tb_5 (List.mem_of_getElem? (i := 51) (by decide +kernel)) (by decide +kernel)
theorem mw_1009 : (Cond.methodLink "SoupOrHorsesLaw" (201 : Nat) ({ cls := "SoupOrHorses", name := "judge", desc := "(II)I" } : Jvm.MethodName)) ∈ WS := tb_5 (List.mem_of_getElem? (i := 49) (by decide +kernel)) (by decide +kernel)
theorem mw_1010 : (Cond.instanceMethod ({ cls := "SoupOrHorses", name := "judge", desc := "(II)I" } : Jvm.MethodName)) ∈ WS := tb_5 (List.mem_of_getElem? (i := 50) (by decide +kernel)) (by decide +kernel)
theorem lv_L_201 : LV RL 201 mX9_judge 2 := ⟨lc_X9_judge, mw_1009, mw_1010, mw_1011⟩
theorem mw_1015 : (Cond.selects "SoupOrHorses" ({ cls := "SoupOrHorses", name := "when", desc := "(III)I" } : Jvm.MethodName) ({ cls := "SoupOrHorses", name := "when", desc := "(III)I" } : Jvm.MethodName)) ∈ WS := tb_5 (List.mem_of_getElem? (i := 55) (by decide +kernel)) (by decide +kernel)
theorem mw_1013 : (Cond.methodLink "SoupOrHorsesLaw" (205 : Nat) ({ cls := "SoupOrHorses", name := "when", desc := "(III)I" } : Jvm.MethodName)) ∈ WS := tb_5 (List.mem_of_getElem? (i := 53) (by decide +kernel)) (by decide +kernel)
theorem mw_1014 : (Cond.instanceMethod ({ cls := "SoupOrHorses", name := "when", desc := "(III)I" } : Jvm.MethodName)) ∈ WS := tb_5 (List.mem_of_getElem? (i := 54) (by decide +kernel)) (by decide +kernel)
theorem lv_L_205 : LV RL 205 mX9_when 3 := ⟨lc_X9_when, mw_1013, mw_1014, mw_1015⟩
theorem mw_1017 : (Cond.methodLink "SoupOrHorses" (368 : Nat) ({ cls := "SoupOrHorses$Sense", name := "whenSure", desc := "(LSoupOrHorses$Camp;LSoupOrHorses$Hearing;I)I" } : Jvm.MethodName)) ∈ WS := tb_5 (List.mem_of_getElem? (i := 57) (by decide +kernel)) (by decide +kernel)
theorem mw_1018 : (Cond.static ({ cls := "SoupOrHorses$Sense", name := "whenSure", desc := "(LSoupOrHorses$Camp;LSoupOrHorses$Hearing;I)I" } : Jvm.MethodName)) ∈ WS := tb_5 (List.mem_of_getElem? (i := 58) (by decide +kernel)) (by decide +kernel)
theorem ls_X9_368 : LSt RX9 368 mX6_whenSure 3 := ⟨lc_X6_whenSure, mw_1017, mw_1018⟩
theorem mw_1020 : (Cond.methodLink "SoupOrHorses$Sense" (120 : Nat) ({ cls := "SoupOrHorses$Sense", name := "guessOf", desc := "(LSoupOrHorses$Camp;LSoupOrHorses$Hearing;I)I" } : Jvm.MethodName)) ∈ WS := tb_5 (List.mem_of_getElem? (i := 60) (by decide +kernel)) (by decide +kernel)
theorem ls_X6_120 : LSt RX6 120 mX6_guessOf 3 := ⟨lc_X6_guessOf, mw_1020, mw_730⟩
theorem mw_1021 : (Cond.methodLink "SoupOrHorses$Sense" (123 : Nat) ({ cls := "SoupOrHorses$Sense", name := "likelyOf", desc := "(LSoupOrHorses$Camp;LSoupOrHorses$Hearing;II)I" } : Jvm.MethodName)) ∈ WS := tb_5 (List.mem_of_getElem? (i := 61) (by decide +kernel)) (by decide +kernel)
theorem ls_X6_123 : LSt RX6 123 mX6_likelyOf 4 := ⟨lc_X6_likelyOf, mw_1021, mw_715⟩
theorem mw_1024 : (Cond.selects "SoupOrHorses" ({ cls := "SoupOrHorses", name := "sound", desc := "(II)I" } : Jvm.MethodName) ({ cls := "SoupOrHorses", name := "sound", desc := "(II)I" } : Jvm.MethodName)) ∈ WS := tb_5 (List.mem_of_getElem? (i := 64) (by decide +kernel)) (by decide +kernel)
theorem mw_1022 : (Cond.methodLink "SoupOrHorsesLaw" (209 : Nat) ({ cls := "SoupOrHorses", name := "sound", desc := "(II)I" } : Jvm.MethodName)) ∈ WS := tb_5 (List.mem_of_getElem? (i := 62) (by decide +kernel)) (by decide +kernel)
theorem mw_1023 : (Cond.instanceMethod ({ cls := "SoupOrHorses", name := "sound", desc := "(II)I" } : Jvm.MethodName)) ∈ WS := tb_5 (List.mem_of_getElem? (i := 63) (by decide +kernel)) (by decide +kernel)
theorem lv_L_209 : LV RL 209 mX9_sound 2 := ⟨lc_X9_sound, mw_1022, mw_1023, mw_1024⟩
theorem mw_1028 : (Cond.selects "SoupOrHorses$Hearing" ({ cls := "SoupOrHorses$Hearing", name := "takeSounded", desc := "(LSoupOrHorses$Camp;I)I" } : Jvm.MethodName) ({ cls := "SoupOrHorses$Hearing", name := "takeSounded", desc := "(LSoupOrHorses$Camp;I)I" } : Jvm.MethodName)) ∈ WS := tb_5 (List.mem_of_getElem? (i := 68) (by decide +kernel)) (by decide +kernel)
theorem mw_1026 : (Cond.methodLink "SoupOrHorses" (371 : Nat) ({ cls := "SoupOrHorses$Hearing", name := "takeSounded", desc := "(LSoupOrHorses$Camp;I)I" } : Jvm.MethodName)) ∈ WS := tb_5 (List.mem_of_getElem? (i := 66) (by decide +kernel)) (by decide +kernel)
theorem mw_1027 : (Cond.instanceMethod ({ cls := "SoupOrHorses$Hearing", name := "takeSounded", desc := "(LSoupOrHorses$Camp;I)I" } : Jvm.MethodName)) ∈ WS := tb_5 (List.mem_of_getElem? (i := 67) (by decide +kernel)) (by decide +kernel)
theorem lv_X9_371 : LV RX9 371 mX2_takeSounded 2 := ⟨lc_X2_takeSounded, mw_1026, mw_1027, mw_1028⟩
theorem mw_1032 : (Cond.selects "SoupOrHorses$Camp" ({ cls := "SoupOrHorses$Camp", name := "drawBelow", desc := "(I)I" } : Jvm.MethodName) ({ cls := "SoupOrHorses$Camp", name := "drawBelow", desc := "(I)I" } : Jvm.MethodName)) ∈ WS := tb_5 (List.mem_of_getElem? (i := 72) (by decide +kernel)) (by decide +kernel)
theorem mw_1030 : (Cond.methodLink "SoupOrHorses$Hearing" (56 : Nat) ({ cls := "SoupOrHorses$Camp", name := "drawBelow", desc := "(I)I" } : Jvm.MethodName)) ∈ WS := tb_5 (List.mem_of_getElem? (i := 70) (by decide +kernel)) (by decide +kernel)
theorem mw_1031 : (Cond.instanceMethod ({ cls := "SoupOrHorses$Camp", name := "drawBelow", desc := "(I)I" } : Jvm.MethodName)) ∈ WS := tb_5 (List.mem_of_getElem? (i := 71) (by decide +kernel)) (by decide +kernel)
theorem lv_X2_56 : LV RX2 56 mX0_drawBelow 1 := ⟨lc_X0_drawBelow, mw_1030, mw_1031, mw_1032⟩
theorem mw_1035 : (Cond.methodLink "SoupOrHorses$Hearing" (62 : Nat) ({ cls := "SoupOrHorses$Camp", name := "noteAt", desc := "(II)I" } : Jvm.MethodName)) ∈ WS := tb_5 (List.mem_of_getElem? (i := 75) (by decide +kernel)) (by decide +kernel)
theorem lv_X2_62 : LV RX2 62 mX0_noteAt 2 := ⟨lc_X0_noteAt, mw_1035, mw_637, mw_638⟩
theorem mw_1038 : (Cond.selects "SoupOrHorses$Shelf" ({ cls := "SoupOrHorses$Shelf", name := "putHearing", desc := "(LSoupOrHorses$Hearing;)V" } : Jvm.MethodName) ({ cls := "SoupOrHorses$Shelf", name := "putHearing", desc := "(LSoupOrHorses$Hearing;)V" } : Jvm.MethodName)) ∈ WS := tb_5 (List.mem_of_getElem? (i := 78) (by decide +kernel)) (by decide +kernel)
theorem mw_1036 : (Cond.methodLink "SoupOrHorses" (374 : Nat) ({ cls := "SoupOrHorses$Shelf", name := "putHearing", desc := "(LSoupOrHorses$Hearing;)V" } : Jvm.MethodName)) ∈ WS := tb_5 (List.mem_of_getElem? (i := 76) (by decide +kernel)) (by decide +kernel)
theorem mw_1037 : (Cond.instanceMethod ({ cls := "SoupOrHorses$Shelf", name := "putHearing", desc := "(LSoupOrHorses$Hearing;)V" } : Jvm.MethodName)) ∈ WS := tb_5 (List.mem_of_getElem? (i := 77) (by decide +kernel)) (by decide +kernel)
theorem lv_X9_374 : LV RX9 374 mX7_putHearing 1 := ⟨lc_X7_putHearing, mw_1036, mw_1037, mw_1038⟩
theorem mw_1040 : (Cond.methodLink "SoupOrHorses$Shelf" (47 : Nat) ({ cls := "SoupOrHorses$Shelf", name := "putRow", desc := "(II)V" } : Jvm.MethodName)) ∈ WS := tb_5 (List.mem_of_getElem? (i := 80) (by decide +kernel)) (by decide +kernel)
theorem lv_X7_47 : LV RX7 47 mX7_putRow 2 := ⟨lc_X7_putRow, mw_1040, mw_230, mw_231⟩
theorem mw_1041 : (Cond.methodLink "SoupOrHorses$Shelf" (51 : Nat) ({ cls := "SoupOrHorses$Hearing", name := "noteAt", desc := "(I)I" } : Jvm.MethodName)) ∈ WS := tb_5 (List.mem_of_getElem? (i := 81) (by decide +kernel)) (by decide +kernel)
theorem lv_X7_51 : LV RX7 51 mX2_noteAt 1 := ⟨lc_X2_noteAt, mw_1041, mw_706, mw_707⟩
theorem mw_1042 : (Cond.methodLink "SoupOrHorses$Shelf" (55 : Nat) ({ cls := "SoupOrHorses$Shelf", name := "putElement", desc := "(IJ)V" } : Jvm.MethodName)) ∈ WS := tb_5 (List.mem_of_getElem? (i := 82) (by decide +kernel)) (by decide +kernel)
theorem lv_X7_55 : LV RX7 55 mX7_putElement 2 := ⟨lc_X7_putElement, mw_1042, mw_263, mw_264⟩
theorem mw_1045 : (Cond.selects "SoupOrHorses" ({ cls := "SoupOrHorses", name := "days", desc := "(I)I" } : Jvm.MethodName) ({ cls := "SoupOrHorses", name := "days", desc := "(I)I" } : Jvm.MethodName)) ∈ WS := tb_5 (List.mem_of_getElem? (i := 85) (by decide +kernel)) (by decide +kernel)
theorem mw_1043 : (Cond.methodLink "SoupOrHorsesLaw" (213 : Nat) ({ cls := "SoupOrHorses", name := "days", desc := "(I)I" } : Jvm.MethodName)) ∈ WS := tb_5 (List.mem_of_getElem? (i := 83) (by decide +kernel)) (by decide +kernel)
theorem mw_1044 : (Cond.instanceMethod ({ cls := "SoupOrHorses", name := "days", desc := "(I)I" } : Jvm.MethodName)) ∈ WS := tb_5 (List.mem_of_getElem? (i := 84) (by decide +kernel)) (by decide +kernel)
theorem lv_L_213 : LV RL 213 mX9_days 1 := ⟨lc_X9_days, mw_1043, mw_1044, mw_1045⟩
theorem mw_1047 : (Cond.methodLink "SoupOrHorses" (378 : Nat) ({ cls := "SoupOrHorses$Camp", name := "drawBelow", desc := "(I)I" } : Jvm.MethodName)) ∈ WS := tb_5 (List.mem_of_getElem? (i := 87) (by decide +kernel)) (by decide +kernel)
theorem lv_X9_378 : LV RX9 378 mX0_drawBelow 1 := ⟨lc_X0_drawBelow, mw_1047, mw_1031, mw_1032⟩
theorem mw_1050 : (Cond.selects "SoupOrHorses" ({ cls := "SoupOrHorses", name := "drop", desc := "()I" } : Jvm.MethodName) ({ cls := "SoupOrHorses", name := "drop", desc := "()I" } : Jvm.MethodName)) ∈ WS := tb_5 (List.mem_of_getElem? (i := 90) (by decide +kernel)) (by decide +kernel)
theorem mw_1048 : (Cond.methodLink "SoupOrHorsesLaw" (217 : Nat) ({ cls := "SoupOrHorses", name := "drop", desc := "()I" } : Jvm.MethodName)) ∈ WS := tb_5 (List.mem_of_getElem? (i := 88) (by decide +kernel)) (by decide +kernel)
theorem mw_1049 : (Cond.instanceMethod ({ cls := "SoupOrHorses", name := "drop", desc := "()I" } : Jvm.MethodName)) ∈ WS := tb_5 (List.mem_of_getElem? (i := 89) (by decide +kernel)) (by decide +kernel)
theorem lv_L_217 : LV RL 217 mX9_drop 0 := ⟨lc_X9_drop, mw_1048, mw_1049, mw_1050⟩
theorem mw_1054 : (Cond.selects "SoupOrHorses$Camp" ({ cls := "SoupOrHorses$Camp", name := "removeLastCall", desc := "()I" } : Jvm.MethodName) ({ cls := "SoupOrHorses$Camp", name := "removeLastCall", desc := "()I" } : Jvm.MethodName)) ∈ WS := tb_5 (List.mem_of_getElem? (i := 94) (by decide +kernel)) (by decide +kernel)
theorem mw_1052 : (Cond.methodLink "SoupOrHorses" (381 : Nat) ({ cls := "SoupOrHorses$Camp", name := "removeLastCall", desc := "()I" } : Jvm.MethodName)) ∈ WS := tb_5 (List.mem_of_getElem? (i := 92) (by decide +kernel)) (by decide +kernel)
theorem mw_1053 : (Cond.instanceMethod ({ cls := "SoupOrHorses$Camp", name := "removeLastCall", desc := "()I" } : Jvm.MethodName)) ∈ WS := tb_5 (List.mem_of_getElem? (i := 93) (by decide +kernel)) (by decide +kernel)
theorem lv_X9_381 : LV RX9 381 mX0_removeLastCall 0 := ⟨lc_X0_removeLastCall, mw_1052, mw_1053, mw_1054⟩
theorem mw_1058 : (Cond.selects "SoupOrHorses" ({ cls := "SoupOrHorses", name := "seed", desc := "(I)I" } : Jvm.MethodName) ({ cls := "SoupOrHorses", name := "seed", desc := "(I)I" } : Jvm.MethodName)) ∈ WS := tb_5 (List.mem_of_getElem? (i := 98) (by decide +kernel)) (by decide +kernel)
theorem mw_1056 : (Cond.methodLink "SoupOrHorsesLaw" (221 : Nat) ({ cls := "SoupOrHorses", name := "seed", desc := "(I)I" } : Jvm.MethodName)) ∈ WS := tb_5 (List.mem_of_getElem? (i := 96) (by decide +kernel)) (by decide +kernel)
theorem mw_1057 : (Cond.instanceMethod ({ cls := "SoupOrHorses", name := "seed", desc := "(I)I" } : Jvm.MethodName)) ∈ WS := tb_5 (List.mem_of_getElem? (i := 97) (by decide +kernel)) (by decide +kernel)
theorem lv_L_221 : LV RL 221 mX9_seed 1 := ⟨lc_X9_seed, mw_1056, mw_1057, mw_1058⟩
theorem mw_1062 : (Cond.selects "SoupOrHorses" ({ cls := "SoupOrHorses", name := "image", desc := "()I" } : Jvm.MethodName) ({ cls := "SoupOrHorses", name := "image", desc := "()I" } : Jvm.MethodName)) ∈ WS := tb_5 (List.mem_of_getElem? (i := 102) (by decide +kernel)) (by decide +kernel)
theorem mw_1060 : (Cond.methodLink "SoupOrHorsesLaw" (225 : Nat) ({ cls := "SoupOrHorses", name := "image", desc := "()I" } : Jvm.MethodName)) ∈ WS := tb_5 (List.mem_of_getElem? (i := 100) (by decide +kernel)) (by decide +kernel)
theorem mw_1061 : (Cond.instanceMethod ({ cls := "SoupOrHorses", name := "image", desc := "()I" } : Jvm.MethodName)) ∈ WS := tb_5 (List.mem_of_getElem? (i := 101) (by decide +kernel)) (by decide +kernel)
theorem lv_L_225 : LV RL 225 mX9_image 0 := ⟨lc_X9_image, mw_1060, mw_1061, mw_1062⟩
theorem mw_1066 : (Cond.selects "SoupOrHorses" ({ cls := "SoupOrHorses", name := "back", desc := "()I" } : Jvm.MethodName) ({ cls := "SoupOrHorses", name := "back", desc := "()I" } : Jvm.MethodName)) ∈ WS := tb_5 (List.mem_of_getElem? (i := 106) (by decide +kernel)) (by decide +kernel)
theorem mw_1064 : (Cond.methodLink "SoupOrHorsesLaw" (229 : Nat) ({ cls := "SoupOrHorses", name := "back", desc := "()I" } : Jvm.MethodName)) ∈ WS := tb_5 (List.mem_of_getElem? (i := 104) (by decide +kernel)) (by decide +kernel)
theorem mw_1065 : (Cond.instanceMethod ({ cls := "SoupOrHorses", name := "back", desc := "()I" } : Jvm.MethodName)) ∈ WS := tb_5 (List.mem_of_getElem? (i := 105) (by decide +kernel)) (by decide +kernel)
theorem lv_L_229 : LV RL 229 mX9_back 0 := ⟨lc_X9_back, mw_1064, mw_1065, mw_1066⟩
theorem mw_1070 : (Cond.selects "SoupOrHorses" ({ cls := "SoupOrHorses", name := "status", desc := "(I)I" } : Jvm.MethodName) ({ cls := "SoupOrHorses", name := "status", desc := "(I)I" } : Jvm.MethodName)) ∈ WS := tb_5 (List.mem_of_getElem? (i := 110) (by decide +kernel)) (by decide +kernel)
theorem mw_1068 : (Cond.methodLink "SoupOrHorsesLaw" (233 : Nat) ({ cls := "SoupOrHorses", name := "status", desc := "(I)I" } : Jvm.MethodName)) ∈ WS := tb_5 (List.mem_of_getElem? (i := 108) (by decide +kernel)) (by decide +kernel)
theorem mw_1069 : (Cond.instanceMethod ({ cls := "SoupOrHorses", name := "status", desc := "(I)I" } : Jvm.MethodName)) ∈ WS := tb_5 (List.mem_of_getElem? (i := 109) (by decide +kernel)) (by decide +kernel)
theorem lv_L_233 : LV RL 233 mX9_status 1 := ⟨lc_X9_status, mw_1068, mw_1069, mw_1070⟩
theorem mw_1074 : (Cond.selects "SoupOrHorses$Camp" ({ cls := "SoupOrHorses$Camp", name := "countNotes", desc := "()I" } : Jvm.MethodName) ({ cls := "SoupOrHorses$Camp", name := "countNotes", desc := "()I" } : Jvm.MethodName)) ∈ WS := tb_5 (List.mem_of_getElem? (i := 114) (by decide +kernel)) (by decide +kernel)
theorem mw_1072 : (Cond.methodLink "SoupOrHorses" (390 : Nat) ({ cls := "SoupOrHorses$Camp", name := "countNotes", desc := "()I" } : Jvm.MethodName)) ∈ WS := tb_5 (List.mem_of_getElem? (i := 112) (by decide +kernel)) (by decide +kernel)
theorem mw_1073 : (Cond.instanceMethod ({ cls := "SoupOrHorses$Camp", name := "countNotes", desc := "()I" } : Jvm.MethodName)) ∈ WS := tb_5 (List.mem_of_getElem? (i := 113) (by decide +kernel)) (by decide +kernel)
theorem lv_X9_390 : LV RX9 390 mX0_countNotes 0 := ⟨lc_X0_countNotes, mw_1072, mw_1073, mw_1074⟩
theorem mw_1076 : (Cond.methodLink "SoupOrHorses" (393 : Nat) ({ cls := "SoupOrHorses$Camp", name := "sumUses", desc := "()I" } : Jvm.MethodName)) ∈ WS := tb_5 (List.mem_of_getElem? (i := 116) (by decide +kernel)) (by decide +kernel)
theorem lv_X9_393 : LV RX9 393 mX0_sumUses 0 := ⟨lc_X0_sumUses, mw_1076, mw_783, mw_784⟩
theorem ms_13 : Cond.selects yX9_countFilledShelves.cls yX9_countFilledShelves yX9_countFilledShelves ∈ WS := WS_of (List.mem_append_left _ (List.mem_of_getElem? (i := 13) (by decide +kernel))) (by decide +kernel)
theorem mw_1077 : (Cond.methodLink "SoupOrHorses" (397 : Nat) ({ cls := "SoupOrHorses", name := "countFilledShelves", desc := "()I" } : Jvm.MethodName)) ∈ WS := tb_5 (List.mem_of_getElem? (i := 117) (by decide +kernel)) (by decide +kernel)
theorem mw_1079 : (Cond.instanceMethod ({ cls := "SoupOrHorses", name := "countFilledShelves", desc := "()I" } : Jvm.MethodName)) ∈ WS := tb_5 (List.mem_of_getElem? (i := 119) (by decide +kernel)) (by decide +kernel)
theorem lv_X9_397 : LV RX9 397 mX9_countFilledShelves 0 := ⟨lc_X9_countFilledShelves, mw_1077, mw_1079, ms_13⟩
theorem mw_1083 : (Cond.selects "SoupOrHorses$Camp" ({ cls := "SoupOrHorses$Camp", name := "countLookers", desc := "()I" } : Jvm.MethodName) ({ cls := "SoupOrHorses$Camp", name := "countLookers", desc := "()I" } : Jvm.MethodName)) ∈ WS := tb_5 (List.mem_of_getElem? (i := 123) (by decide +kernel)) (by decide +kernel)
theorem mw_1081 : (Cond.methodLink "SoupOrHorses" (400 : Nat) ({ cls := "SoupOrHorses$Camp", name := "countLookers", desc := "()I" } : Jvm.MethodName)) ∈ WS := tb_5 (List.mem_of_getElem? (i := 121) (by decide +kernel)) (by decide +kernel)
theorem mw_1082 : (Cond.instanceMethod ({ cls := "SoupOrHorses$Camp", name := "countLookers", desc := "()I" } : Jvm.MethodName)) ∈ WS := tb_5 (List.mem_of_getElem? (i := 122) (by decide +kernel)) (by decide +kernel)
theorem lv_X9_400 : LV RX9 400 mX0_countLookers 0 := ⟨lc_X0_countLookers, mw_1081, mw_1082, mw_1083⟩
theorem mw_1085 : (Cond.methodLink "SoupOrHorses$Camp" (84 : Nat) ({ cls := "SoupOrHorses$Camp", name := "lookOf", desc := "(I)I" } : Jvm.MethodName)) ∈ WS := tb_5 (List.mem_of_getElem? (i := 125) (by decide +kernel)) (by decide +kernel)
theorem lv_X0_84 : LV RX0 84 mX0_lookOf 1 := ⟨lc_X0_lookOf, mw_1085, mw_657, mw_658⟩
theorem mw_1088 : (Cond.methodLink "SoupOrHorsesLaw" (12 : Nat) ({ cls := "SoupOrHorsesModel", name := "<init>", desc := "()V" } : Jvm.MethodName)) ∈ WS := tb_5 (List.mem_of_getElem? (i := 128) (by decide +kernel)) (by decide +kernel)
theorem mw_1089 : (Cond.instanceMethod ({ cls := "SoupOrHorsesModel", name := "<init>", desc := "()V" } : Jvm.MethodName)) ∈ WS := tb_5 (List.mem_of_getElem? (i := 129) (by decide +kernel)) (by decide +kernel)
theorem li_L_12 : LI RL 12 mX10_init 0 := ⟨lc_X10_init, mw_1088, mw_1089, rfl, rfl⟩
theorem mw_1213 : (Cond.selects "SoupOrHorsesModel" ({ cls := "SoupOrHorsesModel", name := "row", desc := "(III)I" } : Jvm.MethodName) ({ cls := "SoupOrHorsesModel", name := "row", desc := "(III)I" } : Jvm.MethodName)) ∈ WS := tb_6 (List.mem_of_getElem? (i := 13) (by decide +kernel)) (by decide +kernel)
theorem mw_1211 : (Cond.methodLink "SoupOrHorsesLaw" (17 : Nat) ({ cls := "SoupOrHorsesModel", name := "row", desc := "(III)I" } : Jvm.MethodName)) ∈ WS := tb_6 (List.mem_of_getElem? (i := 11) (by decide +kernel)) (by decide +kernel)
theorem mw_1212 : (Cond.instanceMethod ({ cls := "SoupOrHorsesModel", name := "row", desc := "(III)I" } : Jvm.MethodName)) ∈ WS := tb_6 (List.mem_of_getElem? (i := 12) (by decide +kernel)) (by decide +kernel)
theorem lv_L_17 : LV RL 17 mX10_row 3 := ⟨lc_X10_row, mw_1211, mw_1212, mw_1213⟩
theorem mw_1216 : (Cond.methodLink "SoupOrHorsesModel" (91 : Nat) ({ cls := "SoupOrHorsesModel", name := "in", desc := "(JJJ)Z" } : Jvm.MethodName)) ∈ WS := tb_6 (List.mem_of_getElem? (i := 16) (by decide +kernel)) (by decide +kernel)
theorem mw_1217 : (Cond.static ({ cls := "SoupOrHorsesModel", name := "in", desc := "(JJJ)Z" } : Jvm.MethodName)) ∈ WS := tb_6 (List.mem_of_getElem? (i := 17) (by decide +kernel)) (by decide +kernel)
theorem ls_X10_91 : LSt RX10 91 mX10_in 3 := ⟨lc_X10_in, mw_1216, mw_1217⟩
theorem ms_14 : Cond.selects yX10_refuse.cls yX10_refuse yX10_refuse ∈ WS := WS_of (List.mem_append_left _ (List.mem_of_getElem? (i := 14) (by decide +kernel))) (by decide +kernel)
theorem mw_1221 : (Cond.methodLink "SoupOrHorsesModel" (107 : Nat) ({ cls := "SoupOrHorsesModel", name := "refuse", desc := "(I)I" } : Jvm.MethodName)) ∈ WS := tb_6 (List.mem_of_getElem? (i := 21) (by decide +kernel)) (by decide +kernel)
theorem mw_1223 : (Cond.instanceMethod ({ cls := "SoupOrHorsesModel", name := "refuse", desc := "(I)I" } : Jvm.MethodName)) ∈ WS := tb_6 (List.mem_of_getElem? (i := 23) (by decide +kernel)) (by decide +kernel)
theorem lv_X10_107 : LV RX10 107 mX10_refuse 1 := ⟨lc_X10_refuse, mw_1221, mw_1223, ms_14⟩
theorem ms_15 : Cond.selects yX10_becomesRow.cls yX10_becomesRow yX10_becomesRow ∈ WS := WS_of (List.mem_append_left _ (List.mem_of_getElem? (i := 15) (by decide +kernel))) (by decide +kernel)
theorem mw_1225 : (Cond.methodLink "SoupOrHorsesModel" (111 : Nat) ({ cls := "SoupOrHorsesModel", name := "becomesRow", desc := "(III)V" } : Jvm.MethodName)) ∈ WS := tb_6 (List.mem_of_getElem? (i := 25) (by decide +kernel)) (by decide +kernel)
theorem mw_1227 : (Cond.instanceMethod ({ cls := "SoupOrHorsesModel", name := "becomesRow", desc := "(III)V" } : Jvm.MethodName)) ∈ WS := tb_6 (List.mem_of_getElem? (i := 27) (by decide +kernel)) (by decide +kernel)
theorem lv_X10_111 : LV RX10 111 mX10_becomesRow 3 := ⟨lc_X10_becomesRow, mw_1225, mw_1227, ms_15⟩
theorem mw_1231 : (Cond.selects "SoupOrHorsesModel" ({ cls := "SoupOrHorsesModel", name := "set", desc := "(IIJ)I" } : Jvm.MethodName) ({ cls := "SoupOrHorsesModel", name := "set", desc := "(IIJ)I" } : Jvm.MethodName)) ∈ WS := tb_6 (List.mem_of_getElem? (i := 31) (by decide +kernel)) (by decide +kernel)
theorem mw_1229 : (Cond.methodLink "SoupOrHorsesLaw" (24 : Nat) ({ cls := "SoupOrHorsesModel", name := "set", desc := "(IIJ)I" } : Jvm.MethodName)) ∈ WS := tb_6 (List.mem_of_getElem? (i := 29) (by decide +kernel)) (by decide +kernel)
theorem mw_1230 : (Cond.instanceMethod ({ cls := "SoupOrHorsesModel", name := "set", desc := "(IIJ)I" } : Jvm.MethodName)) ∈ WS := tb_6 (List.mem_of_getElem? (i := 30) (by decide +kernel)) (by decide +kernel)
theorem lv_L_24 : LV RL 24 mX10_set 3 := ⟨lc_X10_set, mw_1229, mw_1230, mw_1231⟩
theorem ms_16 : Cond.selects yX10_noRow.cls yX10_noRow yX10_noRow ∈ WS := WS_of (List.mem_append_left _ (List.mem_of_getElem? (i := 16) (by decide +kernel))) (by decide +kernel)
theorem mw_1233 : (Cond.methodLink "SoupOrHorsesModel" (115 : Nat) ({ cls := "SoupOrHorsesModel", name := "noRow", desc := "(I)I" } : Jvm.MethodName)) ∈ WS := tb_6 (List.mem_of_getElem? (i := 33) (by decide +kernel)) (by decide +kernel)
theorem mw_1235 : (Cond.instanceMethod ({ cls := "SoupOrHorsesModel", name := "noRow", desc := "(I)I" } : Jvm.MethodName)) ∈ WS := tb_6 (List.mem_of_getElem? (i := 35) (by decide +kernel)) (by decide +kernel)
theorem lv_X10_115 : LV RX10 115 mX10_noRow 1 := ⟨lc_X10_noRow, mw_1233, mw_1235, ms_16⟩
theorem mw_1237 : (Cond.methodLink "SoupOrHorsesModel" (118 : Nat) ({ cls := "SoupOrHorsesModel", name := "fit", desc := "(IJ)J" } : Jvm.MethodName)) ∈ WS := tb_6 (List.mem_of_getElem? (i := 37) (by decide +kernel)) (by decide +kernel)
theorem mw_1238 : (Cond.static ({ cls := "SoupOrHorsesModel", name := "fit", desc := "(IJ)J" } : Jvm.MethodName)) ∈ WS := tb_6 (List.mem_of_getElem? (i := 38) (by decide +kernel)) (by decide +kernel)
theorem ls_X10_118 : LSt RX10 118 mX10_fit 2 := ⟨lc_X10_fit, mw_1237, mw_1238⟩
theorem mw_1242 : (Cond.selects "SoupOrHorsesModel" ({ cls := "SoupOrHorsesModel", name := "copy", desc := "(IIIII)I" } : Jvm.MethodName) ({ cls := "SoupOrHorsesModel", name := "copy", desc := "(IIIII)I" } : Jvm.MethodName)) ∈ WS := tb_6 (List.mem_of_getElem? (i := 42) (by decide +kernel)) (by decide +kernel)
theorem mw_1240 : (Cond.methodLink "SoupOrHorsesLaw" (29 : Nat) ({ cls := "SoupOrHorsesModel", name := "copy", desc := "(IIIII)I" } : Jvm.MethodName)) ∈ WS := tb_6 (List.mem_of_getElem? (i := 40) (by decide +kernel)) (by decide +kernel)
theorem mw_1241 : (Cond.instanceMethod ({ cls := "SoupOrHorsesModel", name := "copy", desc := "(IIIII)I" } : Jvm.MethodName)) ∈ WS := tb_6 (List.mem_of_getElem? (i := 41) (by decide +kernel)) (by decide +kernel)
theorem lv_L_29 : LV RL 29 mX10_copy 5 := ⟨lc_X10_copy, mw_1240, mw_1241, mw_1242⟩
theorem mw_1246 : (Cond.selects "SoupOrHorsesModel" ({ cls := "SoupOrHorsesModel", name := "element", desc := "(II)J" } : Jvm.MethodName) ({ cls := "SoupOrHorsesModel", name := "element", desc := "(II)J" } : Jvm.MethodName)) ∈ WS := tb_6 (List.mem_of_getElem? (i := 46) (by decide +kernel)) (by decide +kernel)
theorem mw_1244 : (Cond.methodLink "SoupOrHorsesLaw" (34 : Nat) ({ cls := "SoupOrHorsesModel", name := "element", desc := "(II)J" } : Jvm.MethodName)) ∈ WS := tb_6 (List.mem_of_getElem? (i := 44) (by decide +kernel)) (by decide +kernel)
theorem mw_1245 : (Cond.instanceMethod ({ cls := "SoupOrHorsesModel", name := "element", desc := "(II)J" } : Jvm.MethodName)) ∈ WS := tb_6 (List.mem_of_getElem? (i := 45) (by decide +kernel)) (by decide +kernel)
theorem lv_L_34 : LV RL 34 mX10_element 2 := ⟨lc_X10_element, mw_1244, mw_1245, mw_1246⟩
theorem mw_1250 : (Cond.selects "SoupOrHorsesModel" ({ cls := "SoupOrHorsesModel", name := "holds", desc := "(I)I" } : Jvm.MethodName) ({ cls := "SoupOrHorsesModel", name := "holds", desc := "(I)I" } : Jvm.MethodName)) ∈ WS := tb_6 (List.mem_of_getElem? (i := 50) (by decide +kernel)) (by decide +kernel)
theorem mw_1248 : (Cond.methodLink "SoupOrHorsesLaw" (39 : Nat) ({ cls := "SoupOrHorsesModel", name := "holds", desc := "(I)I" } : Jvm.MethodName)) ∈ WS := tb_6 (List.mem_of_getElem? (i := 48) (by decide +kernel)) (by decide +kernel)
theorem mw_1249 : (Cond.instanceMethod ({ cls := "SoupOrHorsesModel", name := "holds", desc := "(I)I" } : Jvm.MethodName)) ∈ WS := tb_6 (List.mem_of_getElem? (i := 49) (by decide +kernel)) (by decide +kernel)
theorem lv_L_39 : LV RL 39 mX10_holds 1 := ⟨lc_X10_holds, mw_1248, mw_1249, mw_1250⟩
theorem mw_1254 : (Cond.selects "SoupOrHorsesModel" ({ cls := "SoupOrHorsesModel", name := "show", desc := "(II)I" } : Jvm.MethodName) ({ cls := "SoupOrHorsesModel", name := "show", desc := "(II)I" } : Jvm.MethodName)) ∈ WS := tb_6 (List.mem_of_getElem? (i := 54) (by decide +kernel)) (by decide +kernel)
theorem mw_1252 : (Cond.methodLink "SoupOrHorsesLaw" (44 : Nat) ({ cls := "SoupOrHorsesModel", name := "show", desc := "(II)I" } : Jvm.MethodName)) ∈ WS := tb_6 (List.mem_of_getElem? (i := 52) (by decide +kernel)) (by decide +kernel)
theorem mw_1253 : (Cond.instanceMethod ({ cls := "SoupOrHorsesModel", name := "show", desc := "(II)I" } : Jvm.MethodName)) ∈ WS := tb_6 (List.mem_of_getElem? (i := 53) (by decide +kernel)) (by decide +kernel)
theorem lv_L_44 : LV RL 44 mX10_show 2 := ⟨lc_X10_show, mw_1252, mw_1253, mw_1254⟩
theorem ms_17 : Cond.selects yX10_isEar.cls yX10_isEar yX10_isEar ∈ WS := WS_of (List.mem_append_left _ (List.mem_of_getElem? (i := 17) (by decide +kernel))) (by decide +kernel)
theorem mw_1256 : (Cond.methodLink "SoupOrHorsesModel" (122 : Nat) ({ cls := "SoupOrHorsesModel", name := "isEar", desc := "(I)Z" } : Jvm.MethodName)) ∈ WS := tb_6 (List.mem_of_getElem? (i := 56) (by decide +kernel)) (by decide +kernel)
theorem mw_1258 : (Cond.instanceMethod ({ cls := "SoupOrHorsesModel", name := "isEar", desc := "(I)Z" } : Jvm.MethodName)) ∈ WS := tb_6 (List.mem_of_getElem? (i := 58) (by decide +kernel)) (by decide +kernel)
theorem lv_X10_122 : LV RX10 122 mX10_isEar 1 := ⟨lc_X10_isEar, mw_1256, mw_1258, ms_17⟩
theorem mw_1262 : (Cond.selects "SoupOrHorsesModel" ({ cls := "SoupOrHorsesModel", name := "says", desc := "(II)I" } : Jvm.MethodName) ({ cls := "SoupOrHorsesModel", name := "says", desc := "(II)I" } : Jvm.MethodName)) ∈ WS := tb_6 (List.mem_of_getElem? (i := 62) (by decide +kernel)) (by decide +kernel)
theorem mw_1260 : (Cond.methodLink "SoupOrHorsesLaw" (48 : Nat) ({ cls := "SoupOrHorsesModel", name := "says", desc := "(II)I" } : Jvm.MethodName)) ∈ WS := tb_6 (List.mem_of_getElem? (i := 60) (by decide +kernel)) (by decide +kernel)
theorem mw_1261 : (Cond.instanceMethod ({ cls := "SoupOrHorsesModel", name := "says", desc := "(II)I" } : Jvm.MethodName)) ∈ WS := tb_6 (List.mem_of_getElem? (i := 61) (by decide +kernel)) (by decide +kernel)
theorem lv_L_48 : LV RL 48 mX10_says 2 := ⟨lc_X10_says, mw_1260, mw_1261, mw_1262⟩
theorem mw_1265 : (Cond.methodLink "SoupOrHorsesModel" (128 : Nat) ({ cls := "SoupOrHorsesModel", name := "isUnder", desc := "(II)Z" } : Jvm.MethodName)) ∈ WS := tb_6 (List.mem_of_getElem? (i := 65) (by decide +kernel)) (by decide +kernel)
theorem mw_1266 : (Cond.static ({ cls := "SoupOrHorsesModel", name := "isUnder", desc := "(II)Z" } : Jvm.MethodName)) ∈ WS := tb_6 (List.mem_of_getElem? (i := 66) (by decide +kernel)) (by decide +kernel)
theorem ls_X10_128 : LSt RX10 128 mX10_isUnder 2 := ⟨lc_X10_isUnder, mw_1265, mw_1266⟩
theorem ms_18 : Cond.selects yX10_isEchoed.cls yX10_isEchoed yX10_isEchoed ∈ WS := WS_of (List.mem_append_left _ (List.mem_of_getElem? (i := 18) (by decide +kernel))) (by decide +kernel)
theorem mw_1268 : (Cond.methodLink "SoupOrHorsesModel" (132 : Nat) ({ cls := "SoupOrHorsesModel", name := "isEchoed", desc := "(II)Z" } : Jvm.MethodName)) ∈ WS := tb_6 (List.mem_of_getElem? (i := 68) (by decide +kernel)) (by decide +kernel)
theorem mw_1270 : (Cond.instanceMethod ({ cls := "SoupOrHorsesModel", name := "isEchoed", desc := "(II)Z" } : Jvm.MethodName)) ∈ WS := tb_6 (List.mem_of_getElem? (i := 70) (by decide +kernel)) (by decide +kernel)
theorem lv_X10_132 : LV RX10 132 mX10_isEchoed 2 := ⟨lc_X10_isEchoed, mw_1268, mw_1270, ms_18⟩
theorem ms_19 : Cond.selects yX10_isTorn.cls yX10_isTorn yX10_isTorn ∈ WS := WS_of (List.mem_append_left _ (List.mem_of_getElem? (i := 19) (by decide +kernel))) (by decide +kernel)
theorem mw_1272 : (Cond.methodLink "SoupOrHorsesModel" (135 : Nat) ({ cls := "SoupOrHorsesModel", name := "isTorn", desc := "(III)Z" } : Jvm.MethodName)) ∈ WS := tb_6 (List.mem_of_getElem? (i := 72) (by decide +kernel)) (by decide +kernel)
theorem mw_1274 : (Cond.instanceMethod ({ cls := "SoupOrHorsesModel", name := "isTorn", desc := "(III)Z" } : Jvm.MethodName)) ∈ WS := tb_6 (List.mem_of_getElem? (i := 74) (by decide +kernel)) (by decide +kernel)
theorem lv_X10_135 : LV RX10 135 mX10_isTorn 3 := ⟨lc_X10_isTorn, mw_1272, mw_1274, ms_19⟩
theorem mw_1278 : (Cond.selects "SoupOrHorsesModel" ({ cls := "SoupOrHorsesModel", name := "call", desc := "(IIII)I" } : Jvm.MethodName) ({ cls := "SoupOrHorsesModel", name := "call", desc := "(IIII)I" } : Jvm.MethodName)) ∈ WS := tb_6 (List.mem_of_getElem? (i := 78) (by decide +kernel)) (by decide +kernel)
theorem mw_1276 : (Cond.methodLink "SoupOrHorsesLaw" (53 : Nat) ({ cls := "SoupOrHorsesModel", name := "call", desc := "(IIII)I" } : Jvm.MethodName)) ∈ WS := tb_6 (List.mem_of_getElem? (i := 76) (by decide +kernel)) (by decide +kernel)
theorem mw_1277 : (Cond.instanceMethod ({ cls := "SoupOrHorsesModel", name := "call", desc := "(IIII)I" } : Jvm.MethodName)) ∈ WS := tb_6 (List.mem_of_getElem? (i := 77) (by decide +kernel)) (by decide +kernel)
theorem lv_L_53 : LV RL 53 mX10_call 4 := ⟨lc_X10_call, mw_1276, mw_1277, mw_1278⟩
theorem ms_20 : Cond.selects yX10_addCall.cls yX10_addCall yX10_addCall ∈ WS := WS_of (List.mem_append_left _ (List.mem_of_getElem? (i := 20) (by decide +kernel))) (by decide +kernel)
theorem mw_1282 : (Cond.methodLink "SoupOrHorsesModel" (143 : Nat) ({ cls := "SoupOrHorsesModel", name := "addCall", desc := "(III)V" } : Jvm.MethodName)) ∈ WS := tb_6 (List.mem_of_getElem? (i := 82) (by decide +kernel)) (by decide +kernel)
theorem mw_1284 : (Cond.instanceMethod ({ cls := "SoupOrHorsesModel", name := "addCall", desc := "(III)V" } : Jvm.MethodName)) ∈ WS := tb_6 (List.mem_of_getElem? (i := 84) (by decide +kernel)) (by decide +kernel)
theorem lv_X10_143 : LV RX10 143 mX10_addCall 3 := ⟨lc_X10_addCall, mw_1282, mw_1284, ms_20⟩
theorem mw_1288 : (Cond.selects "SoupOrHorsesModel" ({ cls := "SoupOrHorsesModel", name := "ear", desc := "(II)I" } : Jvm.MethodName) ({ cls := "SoupOrHorsesModel", name := "ear", desc := "(II)I" } : Jvm.MethodName)) ∈ WS := tb_6 (List.mem_of_getElem? (i := 88) (by decide +kernel)) (by decide +kernel)
theorem mw_1286 : (Cond.methodLink "SoupOrHorsesLaw" (57 : Nat) ({ cls := "SoupOrHorsesModel", name := "ear", desc := "(II)I" } : Jvm.MethodName)) ∈ WS := tb_6 (List.mem_of_getElem? (i := 86) (by decide +kernel)) (by decide +kernel)
theorem mw_1287 : (Cond.instanceMethod ({ cls := "SoupOrHorsesModel", name := "ear", desc := "(II)I" } : Jvm.MethodName)) ∈ WS := tb_6 (List.mem_of_getElem? (i := 87) (by decide +kernel)) (by decide +kernel)
theorem lv_L_57 : LV RL 57 mX10_ear 2 := ⟨lc_X10_ear, mw_1286, mw_1287, mw_1288⟩
theorem ms_21 : Cond.selects yX10_addEar.cls yX10_addEar yX10_addEar ∈ WS := WS_of (List.mem_append_left _ (List.mem_of_getElem? (i := 21) (by decide +kernel))) (by decide +kernel)
theorem mw_1291 : (Cond.methodLink "SoupOrHorsesModel" (148 : Nat) ({ cls := "SoupOrHorsesModel", name := "addEar", desc := "(II)V" } : Jvm.MethodName)) ∈ WS := tb_6 (List.mem_of_getElem? (i := 91) (by decide +kernel)) (by decide +kernel)
theorem mw_1293 : (Cond.instanceMethod ({ cls := "SoupOrHorsesModel", name := "addEar", desc := "(II)V" } : Jvm.MethodName)) ∈ WS := tb_6 (List.mem_of_getElem? (i := 93) (by decide +kernel)) (by decide +kernel)
theorem lv_X10_148 : LV RX10 148 mX10_addEar 2 := ⟨lc_X10_addEar, mw_1291, mw_1293, ms_21⟩
theorem mw_1297 : (Cond.selects "SoupOrHorsesModel" ({ cls := "SoupOrHorsesModel", name := "man", desc := "(II)I" } : Jvm.MethodName) ({ cls := "SoupOrHorsesModel", name := "man", desc := "(II)I" } : Jvm.MethodName)) ∈ WS := tb_6 (List.mem_of_getElem? (i := 97) (by decide +kernel)) (by decide +kernel)
theorem mw_1295 : (Cond.methodLink "SoupOrHorsesLaw" (61 : Nat) ({ cls := "SoupOrHorsesModel", name := "man", desc := "(II)I" } : Jvm.MethodName)) ∈ WS := tb_6 (List.mem_of_getElem? (i := 95) (by decide +kernel)) (by decide +kernel)
theorem mw_1296 : (Cond.instanceMethod ({ cls := "SoupOrHorsesModel", name := "man", desc := "(II)I" } : Jvm.MethodName)) ∈ WS := tb_6 (List.mem_of_getElem? (i := 96) (by decide +kernel)) (by decide +kernel)
theorem lv_L_61 : LV RL 61 mX10_man 2 := ⟨lc_X10_man, mw_1295, mw_1296, mw_1297⟩
theorem ms_22 : Cond.selects yX10_addMan.cls yX10_addMan yX10_addMan ∈ WS := WS_of (List.mem_append_left _ (List.mem_of_getElem? (i := 22) (by decide +kernel))) (by decide +kernel)
theorem mw_1299 : (Cond.methodLink "SoupOrHorsesModel" (152 : Nat) ({ cls := "SoupOrHorsesModel", name := "addMan", desc := "(II)V" } : Jvm.MethodName)) ∈ WS := tb_6 (List.mem_of_getElem? (i := 99) (by decide +kernel)) (by decide +kernel)
theorem mw_1301 : (Cond.instanceMethod ({ cls := "SoupOrHorsesModel", name := "addMan", desc := "(II)V" } : Jvm.MethodName)) ∈ WS := tb_6 (List.mem_of_getElem? (i := 101) (by decide +kernel)) (by decide +kernel)
theorem lv_X10_152 : LV RX10 152 mX10_addMan 2 := ⟨lc_X10_addMan, mw_1299, mw_1301, ms_22⟩
theorem mw_1305 : (Cond.selects "SoupOrHorsesModel" ({ cls := "SoupOrHorsesModel", name := "tell", desc := "(III)I" } : Jvm.MethodName) ({ cls := "SoupOrHorsesModel", name := "tell", desc := "(III)I" } : Jvm.MethodName)) ∈ WS := tb_6 (List.mem_of_getElem? (i := 105) (by decide +kernel)) (by decide +kernel)
theorem mw_1303 : (Cond.methodLink "SoupOrHorsesLaw" (65 : Nat) ({ cls := "SoupOrHorsesModel", name := "tell", desc := "(III)I" } : Jvm.MethodName)) ∈ WS := tb_6 (List.mem_of_getElem? (i := 103) (by decide +kernel)) (by decide +kernel)
theorem mw_1304 : (Cond.instanceMethod ({ cls := "SoupOrHorsesModel", name := "tell", desc := "(III)I" } : Jvm.MethodName)) ∈ WS := tb_6 (List.mem_of_getElem? (i := 104) (by decide +kernel)) (by decide +kernel)
theorem lv_L_65 : LV RL 65 mX10_tell 3 := ⟨lc_X10_tell, mw_1303, mw_1304, mw_1305⟩
theorem ms_23 : Cond.selects yX10_isCall.cls yX10_isCall yX10_isCall ∈ WS := WS_of (List.mem_append_left _ (List.mem_of_getElem? (i := 23) (by decide +kernel))) (by decide +kernel)
theorem mw_1307 : (Cond.methodLink "SoupOrHorsesModel" (155 : Nat) ({ cls := "SoupOrHorsesModel", name := "isCall", desc := "(I)Z" } : Jvm.MethodName)) ∈ WS := tb_6 (List.mem_of_getElem? (i := 107) (by decide +kernel)) (by decide +kernel)
theorem mw_1309 : (Cond.instanceMethod ({ cls := "SoupOrHorsesModel", name := "isCall", desc := "(I)Z" } : Jvm.MethodName)) ∈ WS := tb_6 (List.mem_of_getElem? (i := 109) (by decide +kernel)) (by decide +kernel)
theorem lv_X10_155 : LV RX10 155 mX10_isCall 1 := ⟨lc_X10_isCall, mw_1307, mw_1309, ms_23⟩
theorem mw_1313 : (Cond.selects "SoupOrHorsesModel" ({ cls := "SoupOrHorsesModel", name := "ask", desc := "(II)I" } : Jvm.MethodName) ({ cls := "SoupOrHorsesModel", name := "ask", desc := "(II)I" } : Jvm.MethodName)) ∈ WS := tb_6 (List.mem_of_getElem? (i := 113) (by decide +kernel)) (by decide +kernel)
theorem mw_1311 : (Cond.methodLink "SoupOrHorsesLaw" (69 : Nat) ({ cls := "SoupOrHorsesModel", name := "ask", desc := "(II)I" } : Jvm.MethodName)) ∈ WS := tb_6 (List.mem_of_getElem? (i := 111) (by decide +kernel)) (by decide +kernel)
theorem mw_1312 : (Cond.instanceMethod ({ cls := "SoupOrHorsesModel", name := "ask", desc := "(II)I" } : Jvm.MethodName)) ∈ WS := tb_6 (List.mem_of_getElem? (i := 112) (by decide +kernel)) (by decide +kernel)
theorem lv_L_69 : LV RL 69 mX10_ask 2 := ⟨lc_X10_ask, mw_1311, mw_1312, mw_1313⟩
theorem mw_1319 : (Cond.selects "SoupOrHorsesModel" ({ cls := "SoupOrHorsesModel", name := "feed", desc := "(I)I" } : Jvm.MethodName) ({ cls := "SoupOrHorsesModel", name := "feed", desc := "(I)I" } : Jvm.MethodName)) ∈ WS := tb_6 (List.mem_of_getElem? (i := 119) (by decide +kernel)) (by decide +kernel)
theorem mw_1317 : (Cond.methodLink "SoupOrHorsesLaw" (73 : Nat) ({ cls := "SoupOrHorsesModel", name := "feed", desc := "(I)I" } : Jvm.MethodName)) ∈ WS := tb_6 (List.mem_of_getElem? (i := 117) (by decide +kernel)) (by decide +kernel)
theorem mw_1318 : (Cond.instanceMethod ({ cls := "SoupOrHorsesModel", name := "feed", desc := "(I)I" } : Jvm.MethodName)) ∈ WS := tb_6 (List.mem_of_getElem? (i := 118) (by decide +kernel)) (by decide +kernel)
theorem lv_L_73 : LV RL 73 mX10_feed 1 := ⟨lc_X10_feed, mw_1317, mw_1318, mw_1319⟩
theorem mw_1324 : (Cond.selects "SoupOrHorsesModel" ({ cls := "SoupOrHorsesModel", name := "wipe", desc := "()I" } : Jvm.MethodName) ({ cls := "SoupOrHorsesModel", name := "wipe", desc := "()I" } : Jvm.MethodName)) ∈ WS := tb_6 (List.mem_of_getElem? (i := 124) (by decide +kernel)) (by decide +kernel)
theorem mw_1322 : (Cond.methodLink "SoupOrHorsesLaw" (78 : Nat) ({ cls := "SoupOrHorsesModel", name := "wipe", desc := "()I" } : Jvm.MethodName)) ∈ WS := tb_6 (List.mem_of_getElem? (i := 122) (by decide +kernel)) (by decide +kernel)
theorem mw_1323 : (Cond.instanceMethod ({ cls := "SoupOrHorsesModel", name := "wipe", desc := "()I" } : Jvm.MethodName)) ∈ WS := tb_6 (List.mem_of_getElem? (i := 123) (by decide +kernel)) (by decide +kernel)
theorem lv_L_78 : LV RL 78 mX10_wipe 0 := ⟨lc_X10_wipe, mw_1322, mw_1323, mw_1324⟩
theorem mw_1328 : (Cond.selects "SoupOrHorsesModel" ({ cls := "SoupOrHorsesModel", name := "camp", desc := "()I" } : Jvm.MethodName) ({ cls := "SoupOrHorsesModel", name := "camp", desc := "()I" } : Jvm.MethodName)) ∈ WS := tb_6 (List.mem_of_getElem? (i := 128) (by decide +kernel)) (by decide +kernel)
theorem mw_1326 : (Cond.methodLink "SoupOrHorsesLaw" (82 : Nat) ({ cls := "SoupOrHorsesModel", name := "camp", desc := "()I" } : Jvm.MethodName)) ∈ WS := tb_6 (List.mem_of_getElem? (i := 126) (by decide +kernel)) (by decide +kernel)
theorem mw_1327 : (Cond.instanceMethod ({ cls := "SoupOrHorsesModel", name := "camp", desc := "()I" } : Jvm.MethodName)) ∈ WS := tb_6 (List.mem_of_getElem? (i := 127) (by decide +kernel)) (by decide +kernel)
theorem lv_L_82 : LV RL 82 mX10_camp 0 := ⟨lc_X10_camp, mw_1326, mw_1327, mw_1328⟩
theorem ms_24 : Cond.selects yX10_fresh.cls yX10_fresh yX10_fresh ∈ WS := WS_of (List.mem_append_left _ (List.mem_of_getElem? (i := 24) (by decide +kernel))) (by decide +kernel)
theorem mw_1330 : (Cond.methodLink "SoupOrHorsesModel" (242 : Nat) ({ cls := "SoupOrHorsesModel", name := "fresh", desc := "()LSoupOrHorsesModel;" } : Jvm.MethodName)) ∈ WS := tb_6 (List.mem_of_getElem? (i := 130) (by decide +kernel)) (by decide +kernel)
theorem mw_1332 : (Cond.instanceMethod ({ cls := "SoupOrHorsesModel", name := "fresh", desc := "()LSoupOrHorsesModel;" } : Jvm.MethodName)) ∈ WS := tb_6 (List.mem_of_getElem? (i := 132) (by decide +kernel)) (by decide +kernel)
theorem lv_X10_242 : LV RX10 242 mX10_fresh 0 := ⟨lc_X10_fresh, mw_1330, mw_1332, ms_24⟩
theorem mw_1335 : (Cond.methodLink "SoupOrHorsesModel" (237 : Nat) ({ cls := "SoupOrHorsesModel", name := "<init>", desc := "()V" } : Jvm.MethodName)) ∈ WS := tb_6 (List.mem_of_getElem? (i := 135) (by decide +kernel)) (by decide +kernel)
theorem li_X10_237 : LI RX10 237 mX10_init 0 := ⟨lc_X10_init, mw_1335, mw_1089, rfl, rfl⟩
theorem ms_25 : Cond.selects yX10_takeFrom.cls yX10_takeFrom yX10_takeFrom ∈ WS := WS_of (List.mem_append_left _ (List.mem_of_getElem? (i := 25) (by decide +kernel))) (by decide +kernel)
theorem mw_1336 : (Cond.methodLink "SoupOrHorsesModel" (238 : Nat) ({ cls := "SoupOrHorsesModel", name := "takeFrom", desc := "(LSoupOrHorsesModel;)V" } : Jvm.MethodName)) ∈ WS := tb_6 (List.mem_of_getElem? (i := 136) (by decide +kernel)) (by decide +kernel)
theorem mw_1338 : (Cond.instanceMethod ({ cls := "SoupOrHorsesModel", name := "takeFrom", desc := "(LSoupOrHorsesModel;)V" } : Jvm.MethodName)) ∈ WS := tb_6 (List.mem_of_getElem? (i := 138) (by decide +kernel)) (by decide +kernel)
theorem lv_X10_238 : LV RX10 238 mX10_takeFrom 1 := ⟨lc_X10_takeFrom, mw_1336, mw_1338, ms_25⟩
theorem mw_1340 : (Cond.methodLink "SoupOrHorsesModel" (342 : Nat) ({ cls := "SoupOrHorsesModel", name := "copied", desc := "([I[I)V" } : Jvm.MethodName)) ∈ WS := tb_6 (List.mem_of_getElem? (i := 140) (by decide +kernel)) (by decide +kernel)
theorem mw_1341 : (Cond.static ({ cls := "SoupOrHorsesModel", name := "copied", desc := "([I[I)V" } : Jvm.MethodName)) ∈ WS := tb_6 (List.mem_of_getElem? (i := 141) (by decide +kernel)) (by decide +kernel)
theorem ls_X10_342 : LSt RX10 342 mX10_copied 2 := ⟨lc_X10_copied, mw_1340, mw_1341⟩
theorem ms_26 : Cond.selects yX10_readAll.cls yX10_readAll yX10_readAll ∈ WS := WS_of (List.mem_append_left _ (List.mem_of_getElem? (i := 26) (by decide +kernel))) (by decide +kernel)
theorem mw_1343 : (Cond.methodLink "SoupOrHorsesModel" (246 : Nat) ({ cls := "SoupOrHorsesModel", name := "readAll", desc := "()Z" } : Jvm.MethodName)) ∈ WS := tb_6 (List.mem_of_getElem? (i := 143) (by decide +kernel)) (by decide +kernel)
theorem mw_1345 : (Cond.instanceMethod ({ cls := "SoupOrHorsesModel", name := "readAll", desc := "()Z" } : Jvm.MethodName)) ∈ WS := tb_6 (List.mem_of_getElem? (i := 145) (by decide +kernel)) (by decide +kernel)
theorem lv_X10_246 : LV RX10 246 mX10_readAll 0 := ⟨lc_X10_readAll, mw_1343, mw_1345, ms_26⟩
theorem ms_27 : Cond.selects yX10_token.cls yX10_token yX10_token ∈ WS := WS_of (List.mem_append_left _ (List.mem_of_getElem? (i := 27) (by decide +kernel))) (by decide +kernel)
theorem mw_1347 : (Cond.methodLink "SoupOrHorsesModel" (203 : Nat) ({ cls := "SoupOrHorsesModel", name := "token", desc := "()V" } : Jvm.MethodName)) ∈ WS := tb_6 (List.mem_of_getElem? (i := 147) (by decide +kernel)) (by decide +kernel)
theorem mw_1349 : (Cond.instanceMethod ({ cls := "SoupOrHorsesModel", name := "token", desc := "()V" } : Jvm.MethodName)) ∈ WS := tb_6 (List.mem_of_getElem? (i := 149) (by decide +kernel)) (by decide +kernel)
theorem lv_X10_203 : LV RX10 203 mX10_token 0 := ⟨lc_X10_token, mw_1347, mw_1349, ms_27⟩
theorem mw_1351 : (Cond.methodLink "SoupOrHorsesModel" (179 : Nat) ({ cls := "SoupOrHorsesModel", name := "isLetter", desc := "(I)Z" } : Jvm.MethodName)) ∈ WS := tb_6 (List.mem_of_getElem? (i := 151) (by decide +kernel)) (by decide +kernel)
theorem mw_1352 : (Cond.static ({ cls := "SoupOrHorsesModel", name := "isLetter", desc := "(I)Z" } : Jvm.MethodName)) ∈ WS := tb_6 (List.mem_of_getElem? (i := 152) (by decide +kernel)) (by decide +kernel)
theorem ls_X10_179 : LSt RX10 179 mX10_isLetter 1 := ⟨lc_X10_isLetter, mw_1351, mw_1352⟩
theorem mw_1354 : (Cond.methodLink "SoupOrHorsesModel" (182 : Nat) ({ cls := "SoupOrHorsesModel", name := "isDigit", desc := "(I)Z" } : Jvm.MethodName)) ∈ WS := tb_6 (List.mem_of_getElem? (i := 154) (by decide +kernel)) (by decide +kernel)
theorem mw_1355 : (Cond.static ({ cls := "SoupOrHorsesModel", name := "isDigit", desc := "(I)Z" } : Jvm.MethodName)) ∈ WS := tb_6 (List.mem_of_getElem? (i := 155) (by decide +kernel)) (by decide +kernel)
theorem ls_X10_182 : LSt RX10 182 mX10_isDigit 1 := ⟨lc_X10_isDigit, mw_1354, mw_1355⟩
theorem ms_28 : Cond.selects yX10_statement.cls yX10_statement yX10_statement ∈ WS := WS_of (List.mem_append_left _ (List.mem_of_getElem? (i := 28) (by decide +kernel))) (by decide +kernel)
theorem mw_1358 : (Cond.methodLink "SoupOrHorsesModel" (230 : Nat) ({ cls := "SoupOrHorsesModel", name := "statement", desc := "()Z" } : Jvm.MethodName)) ∈ WS := tb_6 (List.mem_of_getElem? (i := 158) (by decide +kernel)) (by decide +kernel)
theorem mw_1360 : (Cond.instanceMethod ({ cls := "SoupOrHorsesModel", name := "statement", desc := "()Z" } : Jvm.MethodName)) ∈ WS := tb_6 (List.mem_of_getElem? (i := 160) (by decide +kernel)) (by decide +kernel)
theorem lv_X10_230 : LV RX10 230 mX10_statement 0 := ⟨lc_X10_statement, mw_1358, mw_1360, ms_28⟩
theorem ms_29 : Cond.selects yX10_isWord.cls yX10_isWord yX10_isWord ∈ WS := WS_of (List.mem_append_left _ (List.mem_of_getElem? (i := 29) (by decide +kernel))) (by decide +kernel)
theorem mw_1363 : (Cond.methodLink "SoupOrHorsesModel" (210 : Nat) ({ cls := "SoupOrHorsesModel", name := "isWord", desc := "(Ljava/lang/String;)Z" } : Jvm.MethodName)) ∈ WS := tb_6 (List.mem_of_getElem? (i := 163) (by decide +kernel)) (by decide +kernel)
theorem mw_1365 : (Cond.instanceMethod ({ cls := "SoupOrHorsesModel", name := "isWord", desc := "(Ljava/lang/String;)Z" } : Jvm.MethodName)) ∈ WS := tb_6 (List.mem_of_getElem? (i := 165) (by decide +kernel)) (by decide +kernel)
theorem lv_X10_210 : LV RX10 210 mX10_isWord 1 := ⟨lc_X10_isWord, mw_1363, mw_1365, ms_29⟩
theorem mw_1367 : (Cond.methodLink "SoupOrHorsesModel" (189 : Nat) ({ cls := "java/lang/String", name := "length", desc := "()I" } : Jvm.MethodName)) ∈ WS := tb_6 (List.mem_of_getElem? (i := 167) (by decide +kernel)) (by decide +kernel)
theorem lv_X10_189 : LV RX10 189 mJ0_length_8abf5 0 := ⟨lc_J0_length_8abf5, mw_1367, mw_509, mw_510⟩
theorem mw_1368 : (Cond.methodLink "SoupOrHorsesModel" (195 : Nat) ({ cls := "java/lang/String", name := "charAt", desc := "(I)C" } : Jvm.MethodName)) ∈ WS := tb_6 (List.mem_of_getElem? (i := 168) (by decide +kernel)) (by decide +kernel)
theorem lv_X10_195 : LV RX10 195 mJ0_charAt_5068e 1 := ⟨lc_J0_charAt_5068e, mw_1368, mw_519, mw_520⟩
theorem ms_30 : Cond.selects yX10_callTold.cls yX10_callTold yX10_callTold ∈ WS := WS_of (List.mem_append_left _ (List.mem_of_getElem? (i := 30) (by decide +kernel))) (by decide +kernel)
theorem mw_1369 : (Cond.methodLink "SoupOrHorsesModel" (214 : Nat) ({ cls := "SoupOrHorsesModel", name := "callTold", desc := "()Z" } : Jvm.MethodName)) ∈ WS := tb_6 (List.mem_of_getElem? (i := 169) (by decide +kernel)) (by decide +kernel)
theorem mw_1371 : (Cond.instanceMethod ({ cls := "SoupOrHorsesModel", name := "callTold", desc := "()Z" } : Jvm.MethodName)) ∈ WS := tb_6 (List.mem_of_getElem? (i := 171) (by decide +kernel)) (by decide +kernel)
theorem lv_X10_214 : LV RX10 214 mX10_callTold 0 := ⟨lc_X10_callTold, mw_1369, mw_1371, ms_30⟩
theorem ms_31 : Cond.selects yX10_wrong.cls yX10_wrong yX10_wrong ∈ WS := WS_of (List.mem_append_left _ (List.mem_of_getElem? (i := 31) (by decide +kernel))) (by decide +kernel)
theorem mw_1373 : (Cond.methodLink "SoupOrHorsesModel" (199 : Nat) ({ cls := "SoupOrHorsesModel", name := "wrong", desc := "()Z" } : Jvm.MethodName)) ∈ WS := tb_6 (List.mem_of_getElem? (i := 173) (by decide +kernel)) (by decide +kernel)
theorem mw_1375 : (Cond.instanceMethod ({ cls := "SoupOrHorsesModel", name := "wrong", desc := "()Z" } : Jvm.MethodName)) ∈ WS := tb_6 (List.mem_of_getElem? (i := 175) (by decide +kernel)) (by decide +kernel)
theorem lv_X10_199 : LV RX10 199 mX10_wrong 0 := ⟨lc_X10_wrong, mw_1373, mw_1375, ms_31⟩
theorem ms_32 : Cond.selects yX10_number.cls yX10_number yX10_number ∈ WS := WS_of (List.mem_append_left _ (List.mem_of_getElem? (i := 32) (by decide +kernel))) (by decide +kernel)
theorem mw_1377 : (Cond.methodLink "SoupOrHorsesModel" (205 : Nat) ({ cls := "SoupOrHorsesModel", name := "number", desc := "(III)Z" } : Jvm.MethodName)) ∈ WS := tb_6 (List.mem_of_getElem? (i := 177) (by decide +kernel)) (by decide +kernel)
theorem mw_1379 : (Cond.instanceMethod ({ cls := "SoupOrHorsesModel", name := "number", desc := "(III)Z" } : Jvm.MethodName)) ∈ WS := tb_6 (List.mem_of_getElem? (i := 179) (by decide +kernel)) (by decide +kernel)
theorem lv_X10_205 : LV RX10 205 mX10_number 3 := ⟨lc_X10_number, mw_1377, mw_1379, ms_32⟩
theorem ms_33 : Cond.selects yX10_tells.cls yX10_tells yX10_tells ∈ WS := WS_of (List.mem_append_left _ (List.mem_of_getElem? (i := 33) (by decide +kernel))) (by decide +kernel)
theorem mw_1382 : (Cond.methodLink "SoupOrHorsesModel" (219 : Nat) ({ cls := "SoupOrHorsesModel", name := "tells", desc := "(II)Z" } : Jvm.MethodName)) ∈ WS := tb_6 (List.mem_of_getElem? (i := 182) (by decide +kernel)) (by decide +kernel)
theorem mw_1384 : (Cond.instanceMethod ({ cls := "SoupOrHorsesModel", name := "tells", desc := "(II)Z" } : Jvm.MethodName)) ∈ WS := tb_6 (List.mem_of_getElem? (i := 184) (by decide +kernel)) (by decide +kernel)
theorem lv_X10_219 : LV RX10 219 mX10_tells 2 := ⟨lc_X10_tells, mw_1382, mw_1384, ms_33⟩
theorem mw_1392 : (Cond.selects "SoupOrHorsesModel" ({ cls := "SoupOrHorsesModel", name := "callOf", desc := "(II)I" } : Jvm.MethodName) ({ cls := "SoupOrHorsesModel", name := "callOf", desc := "(II)I" } : Jvm.MethodName)) ∈ WS := tb_6 (List.mem_of_getElem? (i := 192) (by decide +kernel)) (by decide +kernel)
theorem mw_1390 : (Cond.methodLink "SoupOrHorsesLaw" (86 : Nat) ({ cls := "SoupOrHorsesModel", name := "callOf", desc := "(II)I" } : Jvm.MethodName)) ∈ WS := tb_6 (List.mem_of_getElem? (i := 190) (by decide +kernel)) (by decide +kernel)
theorem mw_1391 : (Cond.instanceMethod ({ cls := "SoupOrHorsesModel", name := "callOf", desc := "(II)I" } : Jvm.MethodName)) ∈ WS := tb_6 (List.mem_of_getElem? (i := 191) (by decide +kernel)) (by decide +kernel)
theorem lv_L_86 : LV RL 86 mX10_callOf 2 := ⟨lc_X10_callOf, mw_1390, mw_1391, mw_1392⟩
theorem mw_1397 : (Cond.selects "SoupOrHorsesModel" ({ cls := "SoupOrHorsesModel", name := "earOf", desc := "(II)I" } : Jvm.MethodName) ({ cls := "SoupOrHorsesModel", name := "earOf", desc := "(II)I" } : Jvm.MethodName)) ∈ WS := tb_6 (List.mem_of_getElem? (i := 197) (by decide +kernel)) (by decide +kernel)
theorem mw_1395 : (Cond.methodLink "SoupOrHorsesLaw" (90 : Nat) ({ cls := "SoupOrHorsesModel", name := "earOf", desc := "(II)I" } : Jvm.MethodName)) ∈ WS := tb_6 (List.mem_of_getElem? (i := 195) (by decide +kernel)) (by decide +kernel)
theorem mw_1396 : (Cond.instanceMethod ({ cls := "SoupOrHorsesModel", name := "earOf", desc := "(II)I" } : Jvm.MethodName)) ∈ WS := tb_6 (List.mem_of_getElem? (i := 196) (by decide +kernel)) (by decide +kernel)
theorem lv_L_90 : LV RL 90 mX10_earOf 2 := ⟨lc_X10_earOf, mw_1395, mw_1396, mw_1397⟩
theorem mw_1401 : (Cond.selects "SoupOrHorsesModel" ({ cls := "SoupOrHorsesModel", name := "manOf", desc := "(II)I" } : Jvm.MethodName) ({ cls := "SoupOrHorsesModel", name := "manOf", desc := "(II)I" } : Jvm.MethodName)) ∈ WS := tb_6 (List.mem_of_getElem? (i := 201) (by decide +kernel)) (by decide +kernel)
theorem mw_1399 : (Cond.methodLink "SoupOrHorsesLaw" (94 : Nat) ({ cls := "SoupOrHorsesModel", name := "manOf", desc := "(II)I" } : Jvm.MethodName)) ∈ WS := tb_6 (List.mem_of_getElem? (i := 199) (by decide +kernel)) (by decide +kernel)
theorem mw_1400 : (Cond.instanceMethod ({ cls := "SoupOrHorsesModel", name := "manOf", desc := "(II)I" } : Jvm.MethodName)) ∈ WS := tb_6 (List.mem_of_getElem? (i := 200) (by decide +kernel)) (by decide +kernel)
theorem lv_L_94 : LV RL 94 mX10_manOf 2 := ⟨lc_X10_manOf, mw_1399, mw_1400, mw_1401⟩
theorem ms_34 : Cond.selects yX10_isMan.cls yX10_isMan yX10_isMan ∈ WS := WS_of (List.mem_append_left _ (List.mem_of_getElem? (i := 34) (by decide +kernel))) (by decide +kernel)
theorem mw_1403 : (Cond.methodLink "SoupOrHorsesModel" (251 : Nat) ({ cls := "SoupOrHorsesModel", name := "isMan", desc := "(I)Z" } : Jvm.MethodName)) ∈ WS := tb_6 (List.mem_of_getElem? (i := 203) (by decide +kernel)) (by decide +kernel)
theorem mw_1405 : (Cond.instanceMethod ({ cls := "SoupOrHorsesModel", name := "isMan", desc := "(I)Z" } : Jvm.MethodName)) ∈ WS := tb_6 (List.mem_of_getElem? (i := 205) (by decide +kernel)) (by decide +kernel)
theorem lv_X10_251 : LV RX10 251 mX10_isMan 1 := ⟨lc_X10_isMan, mw_1403, mw_1405, ms_34⟩
theorem mw_1409 : (Cond.selects "SoupOrHorsesModel" ({ cls := "SoupOrHorsesModel", name := "heard", desc := "(III)I" } : Jvm.MethodName) ({ cls := "SoupOrHorsesModel", name := "heard", desc := "(III)I" } : Jvm.MethodName)) ∈ WS := tb_6 (List.mem_of_getElem? (i := 209) (by decide +kernel)) (by decide +kernel)
theorem mw_1407 : (Cond.methodLink "SoupOrHorsesLaw" (98 : Nat) ({ cls := "SoupOrHorsesModel", name := "heard", desc := "(III)I" } : Jvm.MethodName)) ∈ WS := tb_6 (List.mem_of_getElem? (i := 207) (by decide +kernel)) (by decide +kernel)
theorem mw_1408 : (Cond.instanceMethod ({ cls := "SoupOrHorsesModel", name := "heard", desc := "(III)I" } : Jvm.MethodName)) ∈ WS := tb_6 (List.mem_of_getElem? (i := 208) (by decide +kernel)) (by decide +kernel)
theorem lv_L_98 : LV RL 98 mX10_heard 3 := ⟨lc_X10_heard, mw_1407, mw_1408, mw_1409⟩
theorem ms_35 : Cond.selects yX10_hears.cls yX10_hears yX10_hears ∈ WS := WS_of (List.mem_append_left _ (List.mem_of_getElem? (i := 35) (by decide +kernel))) (by decide +kernel)
theorem mw_1411 : (Cond.methodLink "SoupOrHorsesModel" (254 : Nat) ({ cls := "SoupOrHorsesModel", name := "hears", desc := "(III)I" } : Jvm.MethodName)) ∈ WS := tb_6 (List.mem_of_getElem? (i := 211) (by decide +kernel)) (by decide +kernel)
theorem mw_1413 : (Cond.instanceMethod ({ cls := "SoupOrHorsesModel", name := "hears", desc := "(III)I" } : Jvm.MethodName)) ∈ WS := tb_6 (List.mem_of_getElem? (i := 213) (by decide +kernel)) (by decide +kernel)
theorem lv_X10_254 : LV RX10 254 mX10_hears 3 := ⟨lc_X10_hears, mw_1411, mw_1413, ms_35⟩
theorem mw_1417 : (Cond.selects "SoupOrHorsesModel" ({ cls := "SoupOrHorsesModel", name := "fits", desc := "(IIZII)I" } : Jvm.MethodName) ({ cls := "SoupOrHorsesModel", name := "fits", desc := "(IIZII)I" } : Jvm.MethodName)) ∈ WS := tb_6 (List.mem_of_getElem? (i := 217) (by decide +kernel)) (by decide +kernel)
theorem mw_1415 : (Cond.methodLink "SoupOrHorsesLaw" (103 : Nat) ({ cls := "SoupOrHorsesModel", name := "fits", desc := "(IIZII)I" } : Jvm.MethodName)) ∈ WS := tb_6 (List.mem_of_getElem? (i := 215) (by decide +kernel)) (by decide +kernel)
theorem mw_1416 : (Cond.instanceMethod ({ cls := "SoupOrHorsesModel", name := "fits", desc := "(IIZII)I" } : Jvm.MethodName)) ∈ WS := tb_6 (List.mem_of_getElem? (i := 216) (by decide +kernel)) (by decide +kernel)
theorem lv_L_103 : LV RL 103 mX10_fits 5 := ⟨lc_X10_fits, mw_1415, mw_1416, mw_1417⟩
theorem ms_36 : Cond.selects yX10_noHearing.cls yX10_noHearing yX10_noHearing ∈ WS := WS_of (List.mem_append_left _ (List.mem_of_getElem? (i := 36) (by decide +kernel))) (by decide +kernel)
theorem mw_1419 : (Cond.methodLink "SoupOrHorsesModel" (272 : Nat) ({ cls := "SoupOrHorsesModel", name := "noHearing", desc := "(IIZZ)I" } : Jvm.MethodName)) ∈ WS := tb_6 (List.mem_of_getElem? (i := 219) (by decide +kernel)) (by decide +kernel)
theorem mw_1421 : (Cond.instanceMethod ({ cls := "SoupOrHorsesModel", name := "noHearing", desc := "(IIZZ)I" } : Jvm.MethodName)) ∈ WS := tb_6 (List.mem_of_getElem? (i := 221) (by decide +kernel)) (by decide +kernel)
theorem lv_X10_272 : LV RX10 272 mX10_noHearing 4 := ⟨lc_X10_noHearing, mw_1419, mw_1421, ms_36⟩
theorem ms_37 : Cond.selects yX10_noNotes.cls yX10_noNotes yX10_noNotes ∈ WS := WS_of (List.mem_append_left _ (List.mem_of_getElem? (i := 37) (by decide +kernel))) (by decide +kernel)
theorem mw_1423 : (Cond.methodLink "SoupOrHorsesModel" (268 : Nat) ({ cls := "SoupOrHorsesModel", name := "noNotes", desc := "(II)I" } : Jvm.MethodName)) ∈ WS := tb_6 (List.mem_of_getElem? (i := 223) (by decide +kernel)) (by decide +kernel)
theorem mw_1425 : (Cond.instanceMethod ({ cls := "SoupOrHorsesModel", name := "noNotes", desc := "(II)I" } : Jvm.MethodName)) ∈ WS := tb_6 (List.mem_of_getElem? (i := 225) (by decide +kernel)) (by decide +kernel)
theorem lv_X10_268 : LV RX10 268 mX10_noNotes 2 := ⟨lc_X10_noNotes, mw_1423, mw_1425, ms_37⟩
theorem ms_38 : Cond.selects yX10_fitsHearing.cls yX10_fitsHearing yX10_fitsHearing ∈ WS := WS_of (List.mem_append_left _ (List.mem_of_getElem? (i := 38) (by decide +kernel))) (by decide +kernel)
theorem mw_1427 : (Cond.methodLink "SoupOrHorsesModel" (265 : Nat) ({ cls := "SoupOrHorsesModel", name := "fitsHearing", desc := "(II)Z" } : Jvm.MethodName)) ∈ WS := tb_6 (List.mem_of_getElem? (i := 227) (by decide +kernel)) (by decide +kernel)
theorem mw_1429 : (Cond.instanceMethod ({ cls := "SoupOrHorsesModel", name := "fitsHearing", desc := "(II)Z" } : Jvm.MethodName)) ∈ WS := tb_6 (List.mem_of_getElem? (i := 229) (by decide +kernel)) (by decide +kernel)
theorem lv_X10_265 : LV RX10 265 mX10_fitsHearing 2 := ⟨lc_X10_fitsHearing, mw_1427, mw_1429, ms_38⟩
theorem mw_1433 : (Cond.selects "SoupOrHorsesModel" ({ cls := "SoupOrHorsesModel", name := "likely", desc := "(IIZII)I" } : Jvm.MethodName) ({ cls := "SoupOrHorsesModel", name := "likely", desc := "(IIZII)I" } : Jvm.MethodName)) ∈ WS := tb_6 (List.mem_of_getElem? (i := 233) (by decide +kernel)) (by decide +kernel)
theorem mw_1431 : (Cond.methodLink "SoupOrHorsesLaw" (107 : Nat) ({ cls := "SoupOrHorsesModel", name := "likely", desc := "(IIZII)I" } : Jvm.MethodName)) ∈ WS := tb_6 (List.mem_of_getElem? (i := 231) (by decide +kernel)) (by decide +kernel)
theorem mw_1432 : (Cond.instanceMethod ({ cls := "SoupOrHorsesModel", name := "likely", desc := "(IIZII)I" } : Jvm.MethodName)) ∈ WS := tb_6 (List.mem_of_getElem? (i := 232) (by decide +kernel)) (by decide +kernel)
theorem lv_L_107 : LV RL 107 mX10_likely 5 := ⟨lc_X10_likely, mw_1431, mw_1432, mw_1433⟩
theorem ms_39 : Cond.selects yX10_likelyOf.cls yX10_likelyOf yX10_likelyOf ∈ WS := WS_of (List.mem_append_left _ (List.mem_of_getElem? (i := 39) (by decide +kernel))) (by decide +kernel)
theorem mw_1435 : (Cond.methodLink "SoupOrHorsesModel" (276 : Nat) ({ cls := "SoupOrHorsesModel", name := "likelyOf", desc := "(II)I" } : Jvm.MethodName)) ∈ WS := tb_6 (List.mem_of_getElem? (i := 235) (by decide +kernel)) (by decide +kernel)
theorem mw_1437 : (Cond.instanceMethod ({ cls := "SoupOrHorsesModel", name := "likelyOf", desc := "(II)I" } : Jvm.MethodName)) ∈ WS := tb_6 (List.mem_of_getElem? (i := 237) (by decide +kernel)) (by decide +kernel)
theorem lv_X10_276 : LV RX10 276 mX10_likelyOf 2 := ⟨lc_X10_likelyOf, mw_1435, mw_1437, ms_39⟩
theorem mw_1441 : (Cond.selects "SoupOrHorsesModel" ({ cls := "SoupOrHorsesModel", name := "guess", desc := "(IIZI)I" } : Jvm.MethodName) ({ cls := "SoupOrHorsesModel", name := "guess", desc := "(IIZI)I" } : Jvm.MethodName)) ∈ WS := tb_7 (List.mem_of_getElem? (i := 1) (by decide +kernel)) (by decide +kernel)
theorem mw_1439 : (Cond.methodLink "SoupOrHorsesLaw" (112 : Nat) ({ cls := "SoupOrHorsesModel", name := "guess", desc := "(IIZI)I" } : Jvm.MethodName)) ∈ WS := tb_6 (List.mem_of_getElem? (i := 239) (by decide +kernel)) (by decide +kernel)
theorem mw_1440 : (Cond.instanceMethod ({ cls := "SoupOrHorsesModel", name := "guess", desc := "(IIZI)I" } : Jvm.MethodName)) ∈ WS := tb_7 (List.mem_of_getElem? (i := 0) (by decide +kernel)) (by decide +kernel)
theorem lv_L_112 : LV RL 112 mX10_guess 4 := ⟨lc_X10_guess, mw_1439, mw_1440, mw_1441⟩
theorem ms_40 : Cond.selects yX10_guessOf.cls yX10_guessOf yX10_guessOf ∈ WS := WS_of (List.mem_append_left _ (List.mem_of_getElem? (i := 40) (by decide +kernel))) (by decide +kernel)
theorem mw_1443 : (Cond.methodLink "SoupOrHorsesModel" (279 : Nat) ({ cls := "SoupOrHorsesModel", name := "guessOf", desc := "(I)I" } : Jvm.MethodName)) ∈ WS := tb_7 (List.mem_of_getElem? (i := 3) (by decide +kernel)) (by decide +kernel)
theorem mw_1445 : (Cond.instanceMethod ({ cls := "SoupOrHorsesModel", name := "guessOf", desc := "(I)I" } : Jvm.MethodName)) ∈ WS := tb_7 (List.mem_of_getElem? (i := 5) (by decide +kernel)) (by decide +kernel)
theorem lv_X10_279 : LV RX10 279 mX10_guessOf 1 := ⟨lc_X10_guessOf, mw_1443, mw_1445, ms_40⟩
theorem mw_1449 : (Cond.selects "SoupOrHorsesModel" ({ cls := "SoupOrHorsesModel", name := "next", desc := "(III)I" } : Jvm.MethodName) ({ cls := "SoupOrHorsesModel", name := "next", desc := "(III)I" } : Jvm.MethodName)) ∈ WS := tb_7 (List.mem_of_getElem? (i := 9) (by decide +kernel)) (by decide +kernel)
theorem mw_1447 : (Cond.methodLink "SoupOrHorsesLaw" (136 : Nat) ({ cls := "SoupOrHorsesModel", name := "next", desc := "(III)I" } : Jvm.MethodName)) ∈ WS := tb_7 (List.mem_of_getElem? (i := 7) (by decide +kernel)) (by decide +kernel)
theorem mw_1448 : (Cond.instanceMethod ({ cls := "SoupOrHorsesModel", name := "next", desc := "(III)I" } : Jvm.MethodName)) ∈ WS := tb_7 (List.mem_of_getElem? (i := 8) (by decide +kernel)) (by decide +kernel)
theorem lv_L_136 : LV RL 136 mX10_next 3 := ⟨lc_X10_next, mw_1447, mw_1448, mw_1449⟩
theorem mw_1453 : (Cond.selects "SoupOrHorsesModel" ({ cls := "SoupOrHorsesModel", name := "when", desc := "(III)I" } : Jvm.MethodName) ({ cls := "SoupOrHorsesModel", name := "when", desc := "(III)I" } : Jvm.MethodName)) ∈ WS := tb_7 (List.mem_of_getElem? (i := 13) (by decide +kernel)) (by decide +kernel)
theorem mw_1451 : (Cond.methodLink "SoupOrHorsesLaw" (208 : Nat) ({ cls := "SoupOrHorsesModel", name := "when", desc := "(III)I" } : Jvm.MethodName)) ∈ WS := tb_7 (List.mem_of_getElem? (i := 11) (by decide +kernel)) (by decide +kernel)
theorem mw_1452 : (Cond.instanceMethod ({ cls := "SoupOrHorsesModel", name := "when", desc := "(III)I" } : Jvm.MethodName)) ∈ WS := tb_7 (List.mem_of_getElem? (i := 12) (by decide +kernel)) (by decide +kernel)
theorem lv_L_208 : LV RL 208 mX10_when 3 := ⟨lc_X10_when, mw_1451, mw_1452, mw_1453⟩
theorem mw_1457 : (Cond.selects "SoupOrHorsesModel" ({ cls := "SoupOrHorsesModel", name := "apart", desc := "(II)I" } : Jvm.MethodName) ({ cls := "SoupOrHorsesModel", name := "apart", desc := "(II)I" } : Jvm.MethodName)) ∈ WS := tb_7 (List.mem_of_getElem? (i := 17) (by decide +kernel)) (by decide +kernel)
theorem mw_1455 : (Cond.methodLink "SoupOrHorsesLaw" (116 : Nat) ({ cls := "SoupOrHorsesModel", name := "apart", desc := "(II)I" } : Jvm.MethodName)) ∈ WS := tb_7 (List.mem_of_getElem? (i := 15) (by decide +kernel)) (by decide +kernel)
theorem mw_1456 : (Cond.instanceMethod ({ cls := "SoupOrHorsesModel", name := "apart", desc := "(II)I" } : Jvm.MethodName)) ∈ WS := tb_7 (List.mem_of_getElem? (i := 16) (by decide +kernel)) (by decide +kernel)
theorem lv_L_116 : LV RL 116 mX10_apart 2 := ⟨lc_X10_apart, mw_1455, mw_1456, mw_1457⟩
theorem ms_41 : Cond.selects yX10_apartOf.cls yX10_apartOf yX10_apartOf ∈ WS := WS_of (List.mem_append_left _ (List.mem_of_getElem? (i := 41) (by decide +kernel))) (by decide +kernel)
theorem mw_1459 : (Cond.methodLink "SoupOrHorsesModel" (282 : Nat) ({ cls := "SoupOrHorsesModel", name := "apartOf", desc := "(II)I" } : Jvm.MethodName)) ∈ WS := tb_7 (List.mem_of_getElem? (i := 19) (by decide +kernel)) (by decide +kernel)
theorem mw_1461 : (Cond.instanceMethod ({ cls := "SoupOrHorsesModel", name := "apartOf", desc := "(II)I" } : Jvm.MethodName)) ∈ WS := tb_7 (List.mem_of_getElem? (i := 21) (by decide +kernel)) (by decide +kernel)
theorem lv_X10_282 : LV RX10 282 mX10_apartOf 2 := ⟨lc_X10_apartOf, mw_1459, mw_1461, ms_41⟩
theorem mw_1465 : (Cond.selects "SoupOrHorsesModel" ({ cls := "SoupOrHorsesModel", name := "known", desc := "(II)I" } : Jvm.MethodName) ({ cls := "SoupOrHorsesModel", name := "known", desc := "(II)I" } : Jvm.MethodName)) ∈ WS := tb_7 (List.mem_of_getElem? (i := 25) (by decide +kernel)) (by decide +kernel)
theorem mw_1463 : (Cond.methodLink "SoupOrHorsesLaw" (120 : Nat) ({ cls := "SoupOrHorsesModel", name := "known", desc := "(II)I" } : Jvm.MethodName)) ∈ WS := tb_7 (List.mem_of_getElem? (i := 23) (by decide +kernel)) (by decide +kernel)
theorem mw_1464 : (Cond.instanceMethod ({ cls := "SoupOrHorsesModel", name := "known", desc := "(II)I" } : Jvm.MethodName)) ∈ WS := tb_7 (List.mem_of_getElem? (i := 24) (by decide +kernel)) (by decide +kernel)
theorem lv_L_120 : LV RL 120 mX10_known 2 := ⟨lc_X10_known, mw_1463, mw_1464, mw_1465⟩
theorem ms_42 : Cond.selects yX10_knownOf.cls yX10_knownOf yX10_knownOf ∈ WS := WS_of (List.mem_append_left _ (List.mem_of_getElem? (i := 42) (by decide +kernel))) (by decide +kernel)
theorem mw_1467 : (Cond.methodLink "SoupOrHorsesModel" (292 : Nat) ({ cls := "SoupOrHorsesModel", name := "knownOf", desc := "(II)I" } : Jvm.MethodName)) ∈ WS := tb_7 (List.mem_of_getElem? (i := 27) (by decide +kernel)) (by decide +kernel)
theorem mw_1469 : (Cond.instanceMethod ({ cls := "SoupOrHorsesModel", name := "knownOf", desc := "(II)I" } : Jvm.MethodName)) ∈ WS := tb_7 (List.mem_of_getElem? (i := 29) (by decide +kernel)) (by decide +kernel)
theorem lv_X10_292 : LV RX10 292 mX10_knownOf 2 := ⟨lc_X10_knownOf, mw_1467, mw_1469, ms_42⟩
theorem ms_43 : Cond.selects yX10_hearsOf.cls yX10_hearsOf yX10_hearsOf ∈ WS := WS_of (List.mem_append_left _ (List.mem_of_getElem? (i := 43) (by decide +kernel))) (by decide +kernel)
theorem mw_1471 : (Cond.methodLink "SoupOrHorsesModel" (285 : Nat) ({ cls := "SoupOrHorsesModel", name := "hearsOf", desc := "(IIIZ)V" } : Jvm.MethodName)) ∈ WS := tb_7 (List.mem_of_getElem? (i := 31) (by decide +kernel)) (by decide +kernel)
theorem mw_1473 : (Cond.instanceMethod ({ cls := "SoupOrHorsesModel", name := "hearsOf", desc := "(IIIZ)V" } : Jvm.MethodName)) ∈ WS := tb_7 (List.mem_of_getElem? (i := 33) (by decide +kernel)) (by decide +kernel)
theorem lv_X10_285 : LV RX10 285 mX10_hearsOf 4 := ⟨lc_X10_hearsOf, mw_1471, mw_1473, ms_43⟩
theorem ms_44 : Cond.selects yX10_isAlone.cls yX10_isAlone yX10_isAlone ∈ WS := WS_of (List.mem_append_left _ (List.mem_of_getElem? (i := 44) (by decide +kernel))) (by decide +kernel)
theorem mw_1475 : (Cond.methodLink "SoupOrHorsesModel" (289 : Nat) ({ cls := "SoupOrHorsesModel", name := "isAlone", desc := "(II)Z" } : Jvm.MethodName)) ∈ WS := tb_7 (List.mem_of_getElem? (i := 35) (by decide +kernel)) (by decide +kernel)
theorem mw_1477 : (Cond.instanceMethod ({ cls := "SoupOrHorsesModel", name := "isAlone", desc := "(II)Z" } : Jvm.MethodName)) ∈ WS := tb_7 (List.mem_of_getElem? (i := 37) (by decide +kernel)) (by decide +kernel)
theorem lv_X10_289 : LV RX10 289 mX10_isAlone 2 := ⟨lc_X10_isAlone, mw_1475, mw_1477, ms_44⟩
theorem mw_1481 : (Cond.selects "SoupOrHorsesModel" ({ cls := "SoupOrHorsesModel", name := "earFor", desc := "(I)I" } : Jvm.MethodName) ({ cls := "SoupOrHorsesModel", name := "earFor", desc := "(I)I" } : Jvm.MethodName)) ∈ WS := tb_7 (List.mem_of_getElem? (i := 41) (by decide +kernel)) (by decide +kernel)
theorem mw_1479 : (Cond.methodLink "SoupOrHorsesLaw" (124 : Nat) ({ cls := "SoupOrHorsesModel", name := "earFor", desc := "(I)I" } : Jvm.MethodName)) ∈ WS := tb_7 (List.mem_of_getElem? (i := 39) (by decide +kernel)) (by decide +kernel)
theorem mw_1480 : (Cond.instanceMethod ({ cls := "SoupOrHorsesModel", name := "earFor", desc := "(I)I" } : Jvm.MethodName)) ∈ WS := tb_7 (List.mem_of_getElem? (i := 40) (by decide +kernel)) (by decide +kernel)
theorem lv_L_124 : LV RL 124 mX10_earFor 1 := ⟨lc_X10_earFor, mw_1479, mw_1480, mw_1481⟩
theorem ms_45 : Cond.selects yX10_behindOf.cls yX10_behindOf yX10_behindOf ∈ WS := WS_of (List.mem_append_left _ (List.mem_of_getElem? (i := 45) (by decide +kernel))) (by decide +kernel)
theorem mw_1483 : (Cond.methodLink "SoupOrHorsesModel" (295 : Nat) ({ cls := "SoupOrHorsesModel", name := "behindOf", desc := "(II)I" } : Jvm.MethodName)) ∈ WS := tb_7 (List.mem_of_getElem? (i := 43) (by decide +kernel)) (by decide +kernel)
theorem mw_1485 : (Cond.instanceMethod ({ cls := "SoupOrHorsesModel", name := "behindOf", desc := "(II)I" } : Jvm.MethodName)) ∈ WS := tb_7 (List.mem_of_getElem? (i := 45) (by decide +kernel)) (by decide +kernel)
theorem lv_X10_295 : LV RX10 295 mX10_behindOf 2 := ⟨lc_X10_behindOf, mw_1483, mw_1485, ms_45⟩
theorem mw_1489 : (Cond.selects "SoupOrHorsesModel" ({ cls := "SoupOrHorsesModel", name := "mean", desc := "(I)I" } : Jvm.MethodName) ({ cls := "SoupOrHorsesModel", name := "mean", desc := "(I)I" } : Jvm.MethodName)) ∈ WS := tb_7 (List.mem_of_getElem? (i := 49) (by decide +kernel)) (by decide +kernel)
theorem mw_1487 : (Cond.methodLink "SoupOrHorsesLaw" (128 : Nat) ({ cls := "SoupOrHorsesModel", name := "mean", desc := "(I)I" } : Jvm.MethodName)) ∈ WS := tb_7 (List.mem_of_getElem? (i := 47) (by decide +kernel)) (by decide +kernel)
theorem mw_1488 : (Cond.instanceMethod ({ cls := "SoupOrHorsesModel", name := "mean", desc := "(I)I" } : Jvm.MethodName)) ∈ WS := tb_7 (List.mem_of_getElem? (i := 48) (by decide +kernel)) (by decide +kernel)
theorem lv_L_128 : LV RL 128 mX10_mean 1 := ⟨lc_X10_mean, mw_1487, mw_1488, mw_1489⟩
theorem ms_46 : Cond.selects yX10_uses.cls yX10_uses yX10_uses ∈ WS := WS_of (List.mem_append_left _ (List.mem_of_getElem? (i := 46) (by decide +kernel))) (by decide +kernel)
theorem mw_1491 : (Cond.methodLink "SoupOrHorsesModel" (298 : Nat) ({ cls := "SoupOrHorsesModel", name := "uses", desc := "()I" } : Jvm.MethodName)) ∈ WS := tb_7 (List.mem_of_getElem? (i := 51) (by decide +kernel)) (by decide +kernel)
theorem mw_1493 : (Cond.instanceMethod ({ cls := "SoupOrHorsesModel", name := "uses", desc := "()I" } : Jvm.MethodName)) ∈ WS := tb_7 (List.mem_of_getElem? (i := 53) (by decide +kernel)) (by decide +kernel)
theorem lv_X10_298 : LV RX10 298 mX10_uses 0 := ⟨lc_X10_uses, mw_1491, mw_1493, ms_46⟩
theorem mw_1497 : (Cond.selects "SoupOrHorsesModel" ({ cls := "SoupOrHorsesModel", name := "risk", desc := "(II)I" } : Jvm.MethodName) ({ cls := "SoupOrHorsesModel", name := "risk", desc := "(II)I" } : Jvm.MethodName)) ∈ WS := tb_7 (List.mem_of_getElem? (i := 57) (by decide +kernel)) (by decide +kernel)
theorem mw_1495 : (Cond.methodLink "SoupOrHorsesLaw" (192 : Nat) ({ cls := "SoupOrHorsesModel", name := "risk", desc := "(II)I" } : Jvm.MethodName)) ∈ WS := tb_7 (List.mem_of_getElem? (i := 55) (by decide +kernel)) (by decide +kernel)
theorem mw_1496 : (Cond.instanceMethod ({ cls := "SoupOrHorsesModel", name := "risk", desc := "(II)I" } : Jvm.MethodName)) ∈ WS := tb_7 (List.mem_of_getElem? (i := 56) (by decide +kernel)) (by decide +kernel)
theorem lv_L_192 : LV RL 192 mX10_risk 2 := ⟨lc_X10_risk, mw_1495, mw_1496, mw_1497⟩
theorem ms_47 : Cond.selects yX10_riskOf.cls yX10_riskOf yX10_riskOf ∈ WS := WS_of (List.mem_append_left _ (List.mem_of_getElem? (i := 47) (by decide +kernel))) (by decide +kernel)
theorem mw_1499 : (Cond.methodLink "SoupOrHorsesModel" (301 : Nat) ({ cls := "SoupOrHorsesModel", name := "riskOf", desc := "(II)I" } : Jvm.MethodName)) ∈ WS := tb_7 (List.mem_of_getElem? (i := 59) (by decide +kernel)) (by decide +kernel)
theorem mw_1501 : (Cond.instanceMethod ({ cls := "SoupOrHorsesModel", name := "riskOf", desc := "(II)I" } : Jvm.MethodName)) ∈ WS := tb_7 (List.mem_of_getElem? (i := 61) (by decide +kernel)) (by decide +kernel)
theorem lv_X10_301 : LV RX10 301 mX10_riskOf 2 := ⟨lc_X10_riskOf, mw_1499, mw_1501, ms_47⟩
theorem mw_1505 : (Cond.selects "SoupOrHorsesModel" ({ cls := "SoupOrHorsesModel", name := "worst", desc := "(I)I" } : Jvm.MethodName) ({ cls := "SoupOrHorsesModel", name := "worst", desc := "(I)I" } : Jvm.MethodName)) ∈ WS := tb_7 (List.mem_of_getElem? (i := 65) (by decide +kernel)) (by decide +kernel)
theorem mw_1503 : (Cond.methodLink "SoupOrHorsesLaw" (132 : Nat) ({ cls := "SoupOrHorsesModel", name := "worst", desc := "(I)I" } : Jvm.MethodName)) ∈ WS := tb_7 (List.mem_of_getElem? (i := 63) (by decide +kernel)) (by decide +kernel)
theorem mw_1504 : (Cond.instanceMethod ({ cls := "SoupOrHorsesModel", name := "worst", desc := "(I)I" } : Jvm.MethodName)) ∈ WS := tb_7 (List.mem_of_getElem? (i := 64) (by decide +kernel)) (by decide +kernel)
theorem lv_L_132 : LV RL 132 mX10_worst 1 := ⟨lc_X10_worst, mw_1503, mw_1504, mw_1505⟩
theorem mw_1509 : (Cond.selects "SoupOrHorsesModel" ({ cls := "SoupOrHorsesModel", name := "alikeFirst", desc := "(II)I" } : Jvm.MethodName) ({ cls := "SoupOrHorsesModel", name := "alikeFirst", desc := "(II)I" } : Jvm.MethodName)) ∈ WS := tb_7 (List.mem_of_getElem? (i := 69) (by decide +kernel)) (by decide +kernel)
theorem mw_1507 : (Cond.methodLink "SoupOrHorsesLaw" (140 : Nat) ({ cls := "SoupOrHorsesModel", name := "alikeFirst", desc := "(II)I" } : Jvm.MethodName)) ∈ WS := tb_7 (List.mem_of_getElem? (i := 67) (by decide +kernel)) (by decide +kernel)
theorem mw_1508 : (Cond.instanceMethod ({ cls := "SoupOrHorsesModel", name := "alikeFirst", desc := "(II)I" } : Jvm.MethodName)) ∈ WS := tb_7 (List.mem_of_getElem? (i := 68) (by decide +kernel)) (by decide +kernel)
theorem lv_L_140 : LV RL 140 mX10_alikeFirst 2 := ⟨lc_X10_alikeFirst, mw_1507, mw_1508, mw_1509⟩
theorem mw_1513 : (Cond.selects "SoupOrHorsesModel" ({ cls := "SoupOrHorsesModel", name := "notes", desc := "(I)I" } : Jvm.MethodName) ({ cls := "SoupOrHorsesModel", name := "notes", desc := "(I)I" } : Jvm.MethodName)) ∈ WS := tb_7 (List.mem_of_getElem? (i := 73) (by decide +kernel)) (by decide +kernel)
theorem mw_1511 : (Cond.methodLink "SoupOrHorsesLaw" (144 : Nat) ({ cls := "SoupOrHorsesModel", name := "notes", desc := "(I)I" } : Jvm.MethodName)) ∈ WS := tb_7 (List.mem_of_getElem? (i := 71) (by decide +kernel)) (by decide +kernel)
theorem mw_1512 : (Cond.instanceMethod ({ cls := "SoupOrHorsesModel", name := "notes", desc := "(I)I" } : Jvm.MethodName)) ∈ WS := tb_7 (List.mem_of_getElem? (i := 72) (by decide +kernel)) (by decide +kernel)
theorem lv_L_144 : LV RL 144 mX10_notes 1 := ⟨lc_X10_notes, mw_1511, mw_1512, mw_1513⟩
theorem mw_1517 : (Cond.selects "SoupOrHorsesModel" ({ cls := "SoupOrHorsesModel", name := "twins", desc := "()I" } : Jvm.MethodName) ({ cls := "SoupOrHorsesModel", name := "twins", desc := "()I" } : Jvm.MethodName)) ∈ WS := tb_7 (List.mem_of_getElem? (i := 77) (by decide +kernel)) (by decide +kernel)
theorem mw_1515 : (Cond.methodLink "SoupOrHorsesLaw" (148 : Nat) ({ cls := "SoupOrHorsesModel", name := "twins", desc := "()I" } : Jvm.MethodName)) ∈ WS := tb_7 (List.mem_of_getElem? (i := 75) (by decide +kernel)) (by decide +kernel)
theorem mw_1516 : (Cond.instanceMethod ({ cls := "SoupOrHorsesModel", name := "twins", desc := "()I" } : Jvm.MethodName)) ∈ WS := tb_7 (List.mem_of_getElem? (i := 76) (by decide +kernel)) (by decide +kernel)
theorem lv_L_148 : LV RL 148 mX10_twins 0 := ⟨lc_X10_twins, mw_1515, mw_1516, mw_1517⟩
theorem mw_1521 : (Cond.selects "SoupOrHorsesModel" ({ cls := "SoupOrHorsesModel", name := "change", desc := "(II)I" } : Jvm.MethodName) ({ cls := "SoupOrHorsesModel", name := "change", desc := "(II)I" } : Jvm.MethodName)) ∈ WS := tb_7 (List.mem_of_getElem? (i := 81) (by decide +kernel)) (by decide +kernel)
theorem mw_1519 : (Cond.methodLink "SoupOrHorsesLaw" (152 : Nat) ({ cls := "SoupOrHorsesModel", name := "change", desc := "(II)I" } : Jvm.MethodName)) ∈ WS := tb_7 (List.mem_of_getElem? (i := 79) (by decide +kernel)) (by decide +kernel)
theorem mw_1520 : (Cond.instanceMethod ({ cls := "SoupOrHorsesModel", name := "change", desc := "(II)I" } : Jvm.MethodName)) ∈ WS := tb_7 (List.mem_of_getElem? (i := 80) (by decide +kernel)) (by decide +kernel)
theorem lv_L_152 : LV RL 152 mX10_change 2 := ⟨lc_X10_change, mw_1519, mw_1520, mw_1521⟩
theorem ms_48 : Cond.selects yX10_becomes.cls yX10_becomes yX10_becomes ∈ WS := WS_of (List.mem_append_left _ (List.mem_of_getElem? (i := 48) (by decide +kernel))) (by decide +kernel)
theorem mw_1523 : (Cond.methodLink "SoupOrHorsesModel" (307 : Nat) ({ cls := "SoupOrHorsesModel", name := "becomes", desc := "(II)I" } : Jvm.MethodName)) ∈ WS := tb_7 (List.mem_of_getElem? (i := 83) (by decide +kernel)) (by decide +kernel)
theorem mw_1525 : (Cond.instanceMethod ({ cls := "SoupOrHorsesModel", name := "becomes", desc := "(II)I" } : Jvm.MethodName)) ∈ WS := tb_7 (List.mem_of_getElem? (i := 85) (by decide +kernel)) (by decide +kernel)
theorem lv_X10_307 : LV RX10 307 mX10_becomes 2 := ⟨lc_X10_becomes, mw_1523, mw_1525, ms_48⟩
theorem ms_49 : Cond.selects yX10_isFar.cls yX10_isFar yX10_isFar ∈ WS := WS_of (List.mem_append_left _ (List.mem_of_getElem? (i := 49) (by decide +kernel))) (by decide +kernel)
theorem mw_1527 : (Cond.methodLink "SoupOrHorsesModel" (310 : Nat) ({ cls := "SoupOrHorsesModel", name := "isFar", desc := "(III)Z" } : Jvm.MethodName)) ∈ WS := tb_7 (List.mem_of_getElem? (i := 87) (by decide +kernel)) (by decide +kernel)
theorem mw_1529 : (Cond.instanceMethod ({ cls := "SoupOrHorsesModel", name := "isFar", desc := "(III)Z" } : Jvm.MethodName)) ∈ WS := tb_7 (List.mem_of_getElem? (i := 89) (by decide +kernel)) (by decide +kernel)
theorem lv_X10_310 : LV RX10 310 mX10_isFar 3 := ⟨lc_X10_isFar, mw_1527, mw_1529, ms_49⟩
theorem ms_50 : Cond.selects yX10_farFrom.cls yX10_farFrom yX10_farFrom ∈ WS := WS_of (List.mem_append_left _ (List.mem_of_getElem? (i := 50) (by decide +kernel))) (by decide +kernel)
theorem mw_1531 : (Cond.methodLink "SoupOrHorsesModel" (304 : Nat) ({ cls := "SoupOrHorsesModel", name := "farFrom", desc := "(II)I" } : Jvm.MethodName)) ∈ WS := tb_7 (List.mem_of_getElem? (i := 91) (by decide +kernel)) (by decide +kernel)
theorem mw_1533 : (Cond.instanceMethod ({ cls := "SoupOrHorsesModel", name := "farFrom", desc := "(II)I" } : Jvm.MethodName)) ∈ WS := tb_7 (List.mem_of_getElem? (i := 93) (by decide +kernel)) (by decide +kernel)
theorem lv_X10_304 : LV RX10 304 mX10_farFrom 2 := ⟨lc_X10_farFrom, mw_1531, mw_1533, ms_50⟩
theorem mw_1537 : (Cond.selects "SoupOrHorsesModel" ({ cls := "SoupOrHorsesModel", name := "alike", desc := "(I)I" } : Jvm.MethodName) ({ cls := "SoupOrHorsesModel", name := "alike", desc := "(I)I" } : Jvm.MethodName)) ∈ WS := tb_7 (List.mem_of_getElem? (i := 97) (by decide +kernel)) (by decide +kernel)
theorem mw_1535 : (Cond.methodLink "SoupOrHorsesLaw" (156 : Nat) ({ cls := "SoupOrHorsesModel", name := "alike", desc := "(I)I" } : Jvm.MethodName)) ∈ WS := tb_7 (List.mem_of_getElem? (i := 95) (by decide +kernel)) (by decide +kernel)
theorem mw_1536 : (Cond.instanceMethod ({ cls := "SoupOrHorsesModel", name := "alike", desc := "(I)I" } : Jvm.MethodName)) ∈ WS := tb_7 (List.mem_of_getElem? (i := 96) (by decide +kernel)) (by decide +kernel)
theorem lv_L_156 : LV RL 156 mX10_alike 1 := ⟨lc_X10_alike, mw_1535, mw_1536, mw_1537⟩
theorem mw_1541 : (Cond.selects "SoupOrHorsesModel" ({ cls := "SoupOrHorsesModel", name := "mixed", desc := "(II)I" } : Jvm.MethodName) ({ cls := "SoupOrHorsesModel", name := "mixed", desc := "(II)I" } : Jvm.MethodName)) ∈ WS := tb_7 (List.mem_of_getElem? (i := 101) (by decide +kernel)) (by decide +kernel)
theorem mw_1539 : (Cond.methodLink "SoupOrHorsesLaw" (160 : Nat) ({ cls := "SoupOrHorsesModel", name := "mixed", desc := "(II)I" } : Jvm.MethodName)) ∈ WS := tb_7 (List.mem_of_getElem? (i := 99) (by decide +kernel)) (by decide +kernel)
theorem mw_1540 : (Cond.instanceMethod ({ cls := "SoupOrHorsesModel", name := "mixed", desc := "(II)I" } : Jvm.MethodName)) ∈ WS := tb_7 (List.mem_of_getElem? (i := 100) (by decide +kernel)) (by decide +kernel)
theorem lv_L_160 : LV RL 160 mX10_mixed 2 := ⟨lc_X10_mixed, mw_1539, mw_1540, mw_1541⟩
theorem mw_1545 : (Cond.selects "SoupOrHorsesModel" ({ cls := "SoupOrHorsesModel", name := "fresh", desc := "(II)I" } : Jvm.MethodName) ({ cls := "SoupOrHorsesModel", name := "fresh", desc := "(II)I" } : Jvm.MethodName)) ∈ WS := tb_7 (List.mem_of_getElem? (i := 105) (by decide +kernel)) (by decide +kernel)
theorem mw_1543 : (Cond.methodLink "SoupOrHorsesLaw" (164 : Nat) ({ cls := "SoupOrHorsesModel", name := "fresh", desc := "(II)I" } : Jvm.MethodName)) ∈ WS := tb_7 (List.mem_of_getElem? (i := 103) (by decide +kernel)) (by decide +kernel)
theorem mw_1544 : (Cond.instanceMethod ({ cls := "SoupOrHorsesModel", name := "fresh", desc := "(II)I" } : Jvm.MethodName)) ∈ WS := tb_7 (List.mem_of_getElem? (i := 104) (by decide +kernel)) (by decide +kernel)
theorem lv_L_164 : LV RL 164 mX10_fresh_ 2 := ⟨lc_X10_fresh_, mw_1543, mw_1544, mw_1545⟩
theorem mw_1549 : (Cond.selects "SoupOrHorsesModel" ({ cls := "SoupOrHorsesModel", name := "keep", desc := "(I)I" } : Jvm.MethodName) ({ cls := "SoupOrHorsesModel", name := "keep", desc := "(I)I" } : Jvm.MethodName)) ∈ WS := tb_7 (List.mem_of_getElem? (i := 109) (by decide +kernel)) (by decide +kernel)
theorem mw_1547 : (Cond.methodLink "SoupOrHorsesLaw" (168 : Nat) ({ cls := "SoupOrHorsesModel", name := "keep", desc := "(I)I" } : Jvm.MethodName)) ∈ WS := tb_7 (List.mem_of_getElem? (i := 107) (by decide +kernel)) (by decide +kernel)
theorem mw_1548 : (Cond.instanceMethod ({ cls := "SoupOrHorsesModel", name := "keep", desc := "(I)I" } : Jvm.MethodName)) ∈ WS := tb_7 (List.mem_of_getElem? (i := 108) (by decide +kernel)) (by decide +kernel)
theorem lv_L_168 : LV RL 168 mX10_keep 1 := ⟨lc_X10_keep, mw_1547, mw_1548, mw_1549⟩
theorem mw_1551 : (Cond.methodLink "SoupOrHorsesModel" (313 : Nat) ({ cls := "SoupOrHorsesModel", name := "has", desc := "(II)Z" } : Jvm.MethodName)) ∈ WS := tb_7 (List.mem_of_getElem? (i := 111) (by decide +kernel)) (by decide +kernel)
theorem mw_1552 : (Cond.static ({ cls := "SoupOrHorsesModel", name := "has", desc := "(II)Z" } : Jvm.MethodName)) ∈ WS := tb_7 (List.mem_of_getElem? (i := 112) (by decide +kernel)) (by decide +kernel)
theorem ls_X10_313 : LSt RX10 313 mX10_has 2 := ⟨lc_X10_has, mw_1551, mw_1552⟩
theorem ms_51 : Cond.selects yX10_areApart.cls yX10_areApart yX10_areApart ∈ WS := WS_of (List.mem_append_left _ (List.mem_of_getElem? (i := 51) (by decide +kernel))) (by decide +kernel)
theorem mw_1554 : (Cond.methodLink "SoupOrHorsesModel" (316 : Nat) ({ cls := "SoupOrHorsesModel", name := "areApart", desc := "(II)Z" } : Jvm.MethodName)) ∈ WS := tb_7 (List.mem_of_getElem? (i := 114) (by decide +kernel)) (by decide +kernel)
theorem mw_1556 : (Cond.instanceMethod ({ cls := "SoupOrHorsesModel", name := "areApart", desc := "(II)Z" } : Jvm.MethodName)) ∈ WS := tb_7 (List.mem_of_getElem? (i := 116) (by decide +kernel)) (by decide +kernel)
theorem lv_X10_316 : LV RX10 316 mX10_areApart 2 := ⟨lc_X10_areApart, mw_1554, mw_1556, ms_51⟩
theorem mw_1560 : (Cond.selects "SoupOrHorsesModel" ({ cls := "SoupOrHorsesModel", name := "does", desc := "(II)I" } : Jvm.MethodName) ({ cls := "SoupOrHorsesModel", name := "does", desc := "(II)I" } : Jvm.MethodName)) ∈ WS := tb_7 (List.mem_of_getElem? (i := 120) (by decide +kernel)) (by decide +kernel)
theorem mw_1558 : (Cond.methodLink "SoupOrHorsesLaw" (172 : Nat) ({ cls := "SoupOrHorsesModel", name := "does", desc := "(II)I" } : Jvm.MethodName)) ∈ WS := tb_7 (List.mem_of_getElem? (i := 118) (by decide +kernel)) (by decide +kernel)
theorem mw_1559 : (Cond.instanceMethod ({ cls := "SoupOrHorsesModel", name := "does", desc := "(II)I" } : Jvm.MethodName)) ∈ WS := tb_7 (List.mem_of_getElem? (i := 119) (by decide +kernel)) (by decide +kernel)
theorem lv_L_172 : LV RL 172 mX10_does 2 := ⟨lc_X10_does, mw_1558, mw_1559, mw_1560⟩
theorem ms_52 : Cond.selects yX10_goes.cls yX10_goes yX10_goes ∈ WS := WS_of (List.mem_append_left _ (List.mem_of_getElem? (i := 52) (by decide +kernel))) (by decide +kernel)
theorem mw_1562 : (Cond.methodLink "SoupOrHorsesModel" (322 : Nat) ({ cls := "SoupOrHorsesModel", name := "goes", desc := "(I)V" } : Jvm.MethodName)) ∈ WS := tb_7 (List.mem_of_getElem? (i := 122) (by decide +kernel)) (by decide +kernel)
theorem mw_1564 : (Cond.instanceMethod ({ cls := "SoupOrHorsesModel", name := "goes", desc := "(I)V" } : Jvm.MethodName)) ∈ WS := tb_7 (List.mem_of_getElem? (i := 124) (by decide +kernel)) (by decide +kernel)
theorem lv_X10_322 : LV RX10 322 mX10_goes 1 := ⟨lc_X10_goes, mw_1562, mw_1564, ms_52⟩
theorem ms_53 : Cond.selects yX10_mostDo.cls yX10_mostDo yX10_mostDo ∈ WS := WS_of (List.mem_append_left _ (List.mem_of_getElem? (i := 53) (by decide +kernel))) (by decide +kernel)
theorem mw_1566 : (Cond.methodLink "SoupOrHorsesModel" (319 : Nat) ({ cls := "SoupOrHorsesModel", name := "mostDo", desc := "(I)I" } : Jvm.MethodName)) ∈ WS := tb_7 (List.mem_of_getElem? (i := 126) (by decide +kernel)) (by decide +kernel)
theorem mw_1568 : (Cond.instanceMethod ({ cls := "SoupOrHorsesModel", name := "mostDo", desc := "(I)I" } : Jvm.MethodName)) ∈ WS := tb_7 (List.mem_of_getElem? (i := 128) (by decide +kernel)) (by decide +kernel)
theorem lv_X10_319 : LV RX10 319 mX10_mostDo 1 := ⟨lc_X10_mostDo, mw_1566, mw_1568, ms_53⟩
theorem mw_1572 : (Cond.selects "SoupOrHorsesModel" ({ cls := "SoupOrHorsesModel", name := "right", desc := "(I)I" } : Jvm.MethodName) ({ cls := "SoupOrHorsesModel", name := "right", desc := "(I)I" } : Jvm.MethodName)) ∈ WS := tb_7 (List.mem_of_getElem? (i := 132) (by decide +kernel)) (by decide +kernel)
theorem mw_1570 : (Cond.methodLink "SoupOrHorsesLaw" (176 : Nat) ({ cls := "SoupOrHorsesModel", name := "right", desc := "(I)I" } : Jvm.MethodName)) ∈ WS := tb_7 (List.mem_of_getElem? (i := 130) (by decide +kernel)) (by decide +kernel)
theorem mw_1571 : (Cond.instanceMethod ({ cls := "SoupOrHorsesModel", name := "right", desc := "(I)I" } : Jvm.MethodName)) ∈ WS := tb_7 (List.mem_of_getElem? (i := 131) (by decide +kernel)) (by decide +kernel)
theorem lv_L_176 : LV RL 176 mX10_right 1 := ⟨lc_X10_right, mw_1570, mw_1571, mw_1572⟩
theorem ms_54 : Cond.selects yX10_rightOf.cls yX10_rightOf yX10_rightOf ∈ WS := WS_of (List.mem_append_left _ (List.mem_of_getElem? (i := 54) (by decide +kernel))) (by decide +kernel)
theorem mw_1574 : (Cond.methodLink "SoupOrHorsesModel" (326 : Nat) ({ cls := "SoupOrHorsesModel", name := "rightOf", desc := "(I)I" } : Jvm.MethodName)) ∈ WS := tb_7 (List.mem_of_getElem? (i := 134) (by decide +kernel)) (by decide +kernel)
theorem mw_1576 : (Cond.instanceMethod ({ cls := "SoupOrHorsesModel", name := "rightOf", desc := "(I)I" } : Jvm.MethodName)) ∈ WS := tb_7 (List.mem_of_getElem? (i := 136) (by decide +kernel)) (by decide +kernel)
theorem lv_X10_326 : LV RX10 326 mX10_rightOf 1 := ⟨lc_X10_rightOf, mw_1574, mw_1576, ms_54⟩
theorem mw_1580 : (Cond.selects "SoupOrHorsesModel" ({ cls := "SoupOrHorsesModel", name := "leads", desc := "(I)I" } : Jvm.MethodName) ({ cls := "SoupOrHorsesModel", name := "leads", desc := "(I)I" } : Jvm.MethodName)) ∈ WS := tb_7 (List.mem_of_getElem? (i := 140) (by decide +kernel)) (by decide +kernel)
theorem mw_1578 : (Cond.methodLink "SoupOrHorsesLaw" (180 : Nat) ({ cls := "SoupOrHorsesModel", name := "leads", desc := "(I)I" } : Jvm.MethodName)) ∈ WS := tb_7 (List.mem_of_getElem? (i := 138) (by decide +kernel)) (by decide +kernel)
theorem mw_1579 : (Cond.instanceMethod ({ cls := "SoupOrHorsesModel", name := "leads", desc := "(I)I" } : Jvm.MethodName)) ∈ WS := tb_7 (List.mem_of_getElem? (i := 139) (by decide +kernel)) (by decide +kernel)
theorem lv_L_180 : LV RL 180 mX10_leads 1 := ⟨lc_X10_leads, mw_1578, mw_1579, mw_1580⟩
theorem mw_1584 : (Cond.selects "SoupOrHorsesModel" ({ cls := "SoupOrHorsesModel", name := "follows", desc := "(I)I" } : Jvm.MethodName) ({ cls := "SoupOrHorsesModel", name := "follows", desc := "(I)I" } : Jvm.MethodName)) ∈ WS := tb_7 (List.mem_of_getElem? (i := 144) (by decide +kernel)) (by decide +kernel)
theorem mw_1582 : (Cond.methodLink "SoupOrHorsesLaw" (184 : Nat) ({ cls := "SoupOrHorsesModel", name := "follows", desc := "(I)I" } : Jvm.MethodName)) ∈ WS := tb_7 (List.mem_of_getElem? (i := 142) (by decide +kernel)) (by decide +kernel)
theorem mw_1583 : (Cond.instanceMethod ({ cls := "SoupOrHorsesModel", name := "follows", desc := "(I)I" } : Jvm.MethodName)) ∈ WS := tb_7 (List.mem_of_getElem? (i := 143) (by decide +kernel)) (by decide +kernel)
theorem lv_L_184 : LV RL 184 mX10_follows 1 := ⟨lc_X10_follows, mw_1582, mw_1583, mw_1584⟩
theorem mw_1588 : (Cond.selects "SoupOrHorsesModel" ({ cls := "SoupOrHorsesModel", name := "sureFor", desc := "(I)I" } : Jvm.MethodName) ({ cls := "SoupOrHorsesModel", name := "sureFor", desc := "(I)I" } : Jvm.MethodName)) ∈ WS := tb_7 (List.mem_of_getElem? (i := 148) (by decide +kernel)) (by decide +kernel)
theorem mw_1586 : (Cond.methodLink "SoupOrHorsesLaw" (188 : Nat) ({ cls := "SoupOrHorsesModel", name := "sureFor", desc := "(I)I" } : Jvm.MethodName)) ∈ WS := tb_7 (List.mem_of_getElem? (i := 146) (by decide +kernel)) (by decide +kernel)
theorem mw_1587 : (Cond.instanceMethod ({ cls := "SoupOrHorsesModel", name := "sureFor", desc := "(I)I" } : Jvm.MethodName)) ∈ WS := tb_7 (List.mem_of_getElem? (i := 147) (by decide +kernel)) (by decide +kernel)
theorem lv_L_188 : LV RL 188 mX10_sureFor 1 := ⟨lc_X10_sureFor, mw_1586, mw_1587, mw_1588⟩
theorem mw_1592 : (Cond.selects "SoupOrHorsesModel" ({ cls := "SoupOrHorsesModel", name := "learn", desc := "(I)I" } : Jvm.MethodName) ({ cls := "SoupOrHorsesModel", name := "learn", desc := "(I)I" } : Jvm.MethodName)) ∈ WS := tb_7 (List.mem_of_getElem? (i := 152) (by decide +kernel)) (by decide +kernel)
theorem mw_1590 : (Cond.methodLink "SoupOrHorsesLaw" (196 : Nat) ({ cls := "SoupOrHorsesModel", name := "learn", desc := "(I)I" } : Jvm.MethodName)) ∈ WS := tb_7 (List.mem_of_getElem? (i := 150) (by decide +kernel)) (by decide +kernel)
theorem mw_1591 : (Cond.instanceMethod ({ cls := "SoupOrHorsesModel", name := "learn", desc := "(I)I" } : Jvm.MethodName)) ∈ WS := tb_7 (List.mem_of_getElem? (i := 151) (by decide +kernel)) (by decide +kernel)
theorem lv_L_196 : LV RL 196 mX10_learn 1 := ⟨lc_X10_learn, mw_1590, mw_1591, mw_1592⟩
theorem mw_1596 : (Cond.selects "SoupOrHorsesModel" ({ cls := "SoupOrHorsesModel", name := "nearest", desc := "(III)I" } : Jvm.MethodName) ({ cls := "SoupOrHorsesModel", name := "nearest", desc := "(III)I" } : Jvm.MethodName)) ∈ WS := tb_7 (List.mem_of_getElem? (i := 156) (by decide +kernel)) (by decide +kernel)
theorem mw_1594 : (Cond.methodLink "SoupOrHorsesLaw" (200 : Nat) ({ cls := "SoupOrHorsesModel", name := "nearest", desc := "(III)I" } : Jvm.MethodName)) ∈ WS := tb_7 (List.mem_of_getElem? (i := 154) (by decide +kernel)) (by decide +kernel)
theorem mw_1595 : (Cond.instanceMethod ({ cls := "SoupOrHorsesModel", name := "nearest", desc := "(III)I" } : Jvm.MethodName)) ∈ WS := tb_7 (List.mem_of_getElem? (i := 155) (by decide +kernel)) (by decide +kernel)
theorem lv_L_200 : LV RL 200 mX10_nearest 3 := ⟨lc_X10_nearest, mw_1594, mw_1595, mw_1596⟩
theorem ms_55 : Cond.selects yX10_nearestOf.cls yX10_nearestOf yX10_nearestOf ∈ WS := WS_of (List.mem_append_left _ (List.mem_of_getElem? (i := 55) (by decide +kernel))) (by decide +kernel)
theorem mw_1598 : (Cond.methodLink "SoupOrHorsesModel" (332 : Nat) ({ cls := "SoupOrHorsesModel", name := "nearestOf", desc := "()I" } : Jvm.MethodName)) ∈ WS := tb_7 (List.mem_of_getElem? (i := 158) (by decide +kernel)) (by decide +kernel)
theorem mw_1600 : (Cond.instanceMethod ({ cls := "SoupOrHorsesModel", name := "nearestOf", desc := "()I" } : Jvm.MethodName)) ∈ WS := tb_7 (List.mem_of_getElem? (i := 160) (by decide +kernel)) (by decide +kernel)
theorem lv_X10_332 : LV RX10 332 mX10_nearestOf 0 := ⟨lc_X10_nearestOf, mw_1598, mw_1600, ms_55⟩
theorem ms_56 : Cond.selects yX10_differs.cls yX10_differs yX10_differs ∈ WS := WS_of (List.mem_append_left _ (List.mem_of_getElem? (i := 56) (by decide +kernel))) (by decide +kernel)
theorem mw_1602 : (Cond.methodLink "SoupOrHorsesModel" (329 : Nat) ({ cls := "SoupOrHorsesModel", name := "differs", desc := "(I)I" } : Jvm.MethodName)) ∈ WS := tb_7 (List.mem_of_getElem? (i := 162) (by decide +kernel)) (by decide +kernel)
theorem mw_1604 : (Cond.instanceMethod ({ cls := "SoupOrHorsesModel", name := "differs", desc := "(I)I" } : Jvm.MethodName)) ∈ WS := tb_7 (List.mem_of_getElem? (i := 164) (by decide +kernel)) (by decide +kernel)
theorem lv_X10_329 : LV RX10 329 mX10_differs 1 := ⟨lc_X10_differs, mw_1602, mw_1604, ms_56⟩
theorem mw_1608 : (Cond.selects "SoupOrHorsesModel" ({ cls := "SoupOrHorsesModel", name := "judge", desc := "(II)I" } : Jvm.MethodName) ({ cls := "SoupOrHorsesModel", name := "judge", desc := "(II)I" } : Jvm.MethodName)) ∈ WS := tb_7 (List.mem_of_getElem? (i := 168) (by decide +kernel)) (by decide +kernel)
theorem mw_1606 : (Cond.methodLink "SoupOrHorsesLaw" (204 : Nat) ({ cls := "SoupOrHorsesModel", name := "judge", desc := "(II)I" } : Jvm.MethodName)) ∈ WS := tb_7 (List.mem_of_getElem? (i := 166) (by decide +kernel)) (by decide +kernel)
theorem mw_1607 : (Cond.instanceMethod ({ cls := "SoupOrHorsesModel", name := "judge", desc := "(II)I" } : Jvm.MethodName)) ∈ WS := tb_7 (List.mem_of_getElem? (i := 167) (by decide +kernel)) (by decide +kernel)
theorem lv_L_204 : LV RL 204 mX10_judge 2 := ⟨lc_X10_judge, mw_1606, mw_1607, mw_1608⟩
theorem mw_1612 : (Cond.selects "SoupOrHorsesModel" ({ cls := "SoupOrHorsesModel", name := "sound", desc := "(II)I" } : Jvm.MethodName) ({ cls := "SoupOrHorsesModel", name := "sound", desc := "(II)I" } : Jvm.MethodName)) ∈ WS := tb_7 (List.mem_of_getElem? (i := 172) (by decide +kernel)) (by decide +kernel)
theorem mw_1610 : (Cond.methodLink "SoupOrHorsesLaw" (212 : Nat) ({ cls := "SoupOrHorsesModel", name := "sound", desc := "(II)I" } : Jvm.MethodName)) ∈ WS := tb_7 (List.mem_of_getElem? (i := 170) (by decide +kernel)) (by decide +kernel)
theorem mw_1611 : (Cond.instanceMethod ({ cls := "SoupOrHorsesModel", name := "sound", desc := "(II)I" } : Jvm.MethodName)) ∈ WS := tb_7 (List.mem_of_getElem? (i := 171) (by decide +kernel)) (by decide +kernel)
theorem lv_L_212 : LV RL 212 mX10_sound 2 := ⟨lc_X10_sound, mw_1610, mw_1611, mw_1612⟩
theorem ms_57 : Cond.selects yX10_sounded.cls yX10_sounded yX10_sounded ∈ WS := WS_of (List.mem_append_left _ (List.mem_of_getElem? (i := 57) (by decide +kernel))) (by decide +kernel)
theorem mw_1614 : (Cond.methodLink "SoupOrHorsesModel" (339 : Nat) ({ cls := "SoupOrHorsesModel", name := "sounded", desc := "(I)I" } : Jvm.MethodName)) ∈ WS := tb_7 (List.mem_of_getElem? (i := 174) (by decide +kernel)) (by decide +kernel)
theorem mw_1616 : (Cond.instanceMethod ({ cls := "SoupOrHorsesModel", name := "sounded", desc := "(I)I" } : Jvm.MethodName)) ∈ WS := tb_7 (List.mem_of_getElem? (i := 176) (by decide +kernel)) (by decide +kernel)
theorem lv_X10_339 : LV RX10 339 mX10_sounded 1 := ⟨lc_X10_sounded, mw_1614, mw_1616, ms_57⟩
theorem ms_58 : Cond.selects yX10_below.cls yX10_below yX10_below ∈ WS := WS_of (List.mem_append_left _ (List.mem_of_getElem? (i := 58) (by decide +kernel))) (by decide +kernel)
theorem mw_1618 : (Cond.methodLink "SoupOrHorsesModel" (336 : Nat) ({ cls := "SoupOrHorsesModel", name := "below", desc := "(I)I" } : Jvm.MethodName)) ∈ WS := tb_7 (List.mem_of_getElem? (i := 178) (by decide +kernel)) (by decide +kernel)
theorem mw_1620 : (Cond.instanceMethod ({ cls := "SoupOrHorsesModel", name := "below", desc := "(I)I" } : Jvm.MethodName)) ∈ WS := tb_7 (List.mem_of_getElem? (i := 180) (by decide +kernel)) (by decide +kernel)
theorem lv_X10_336 : LV RX10 336 mX10_below 1 := ⟨lc_X10_below, mw_1618, mw_1620, ms_58⟩
theorem mw_1625 : (Cond.selects "SoupOrHorsesModel" ({ cls := "SoupOrHorsesModel", name := "days", desc := "(I)I" } : Jvm.MethodName) ({ cls := "SoupOrHorsesModel", name := "days", desc := "(I)I" } : Jvm.MethodName)) ∈ WS := tb_7 (List.mem_of_getElem? (i := 185) (by decide +kernel)) (by decide +kernel)
theorem mw_1623 : (Cond.methodLink "SoupOrHorsesLaw" (216 : Nat) ({ cls := "SoupOrHorsesModel", name := "days", desc := "(I)I" } : Jvm.MethodName)) ∈ WS := tb_7 (List.mem_of_getElem? (i := 183) (by decide +kernel)) (by decide +kernel)
theorem mw_1624 : (Cond.instanceMethod ({ cls := "SoupOrHorsesModel", name := "days", desc := "(I)I" } : Jvm.MethodName)) ∈ WS := tb_7 (List.mem_of_getElem? (i := 184) (by decide +kernel)) (by decide +kernel)
theorem lv_L_216 : LV RL 216 mX10_days 1 := ⟨lc_X10_days, mw_1623, mw_1624, mw_1625⟩
theorem mw_1629 : (Cond.selects "SoupOrHorsesModel" ({ cls := "SoupOrHorsesModel", name := "drop", desc := "()I" } : Jvm.MethodName) ({ cls := "SoupOrHorsesModel", name := "drop", desc := "()I" } : Jvm.MethodName)) ∈ WS := tb_7 (List.mem_of_getElem? (i := 189) (by decide +kernel)) (by decide +kernel)
theorem mw_1627 : (Cond.methodLink "SoupOrHorsesLaw" (220 : Nat) ({ cls := "SoupOrHorsesModel", name := "drop", desc := "()I" } : Jvm.MethodName)) ∈ WS := tb_7 (List.mem_of_getElem? (i := 187) (by decide +kernel)) (by decide +kernel)
theorem mw_1628 : (Cond.instanceMethod ({ cls := "SoupOrHorsesModel", name := "drop", desc := "()I" } : Jvm.MethodName)) ∈ WS := tb_7 (List.mem_of_getElem? (i := 188) (by decide +kernel)) (by decide +kernel)
theorem lv_L_220 : LV RL 220 mX10_drop 0 := ⟨lc_X10_drop, mw_1627, mw_1628, mw_1629⟩
theorem mw_1633 : (Cond.selects "SoupOrHorsesModel" ({ cls := "SoupOrHorsesModel", name := "seed", desc := "(I)I" } : Jvm.MethodName) ({ cls := "SoupOrHorsesModel", name := "seed", desc := "(I)I" } : Jvm.MethodName)) ∈ WS := tb_7 (List.mem_of_getElem? (i := 193) (by decide +kernel)) (by decide +kernel)
theorem mw_1631 : (Cond.methodLink "SoupOrHorsesLaw" (224 : Nat) ({ cls := "SoupOrHorsesModel", name := "seed", desc := "(I)I" } : Jvm.MethodName)) ∈ WS := tb_7 (List.mem_of_getElem? (i := 191) (by decide +kernel)) (by decide +kernel)
theorem mw_1632 : (Cond.instanceMethod ({ cls := "SoupOrHorsesModel", name := "seed", desc := "(I)I" } : Jvm.MethodName)) ∈ WS := tb_7 (List.mem_of_getElem? (i := 192) (by decide +kernel)) (by decide +kernel)
theorem lv_L_224 : LV RL 224 mX10_seed 1 := ⟨lc_X10_seed, mw_1631, mw_1632, mw_1633⟩
theorem mw_1637 : (Cond.selects "SoupOrHorsesModel" ({ cls := "SoupOrHorsesModel", name := "image", desc := "()I" } : Jvm.MethodName) ({ cls := "SoupOrHorsesModel", name := "image", desc := "()I" } : Jvm.MethodName)) ∈ WS := tb_7 (List.mem_of_getElem? (i := 197) (by decide +kernel)) (by decide +kernel)
theorem mw_1635 : (Cond.methodLink "SoupOrHorsesLaw" (228 : Nat) ({ cls := "SoupOrHorsesModel", name := "image", desc := "()I" } : Jvm.MethodName)) ∈ WS := tb_7 (List.mem_of_getElem? (i := 195) (by decide +kernel)) (by decide +kernel)
theorem mw_1636 : (Cond.instanceMethod ({ cls := "SoupOrHorsesModel", name := "image", desc := "()I" } : Jvm.MethodName)) ∈ WS := tb_7 (List.mem_of_getElem? (i := 196) (by decide +kernel)) (by decide +kernel)
theorem lv_L_228 : LV RL 228 mX10_image 0 := ⟨lc_X10_image, mw_1635, mw_1636, mw_1637⟩
theorem mw_1641 : (Cond.selects "SoupOrHorsesModel" ({ cls := "SoupOrHorsesModel", name := "back", desc := "()I" } : Jvm.MethodName) ({ cls := "SoupOrHorsesModel", name := "back", desc := "()I" } : Jvm.MethodName)) ∈ WS := tb_7 (List.mem_of_getElem? (i := 201) (by decide +kernel)) (by decide +kernel)
theorem mw_1639 : (Cond.methodLink "SoupOrHorsesLaw" (232 : Nat) ({ cls := "SoupOrHorsesModel", name := "back", desc := "()I" } : Jvm.MethodName)) ∈ WS := tb_7 (List.mem_of_getElem? (i := 199) (by decide +kernel)) (by decide +kernel)
theorem mw_1640 : (Cond.instanceMethod ({ cls := "SoupOrHorsesModel", name := "back", desc := "()I" } : Jvm.MethodName)) ∈ WS := tb_7 (List.mem_of_getElem? (i := 200) (by decide +kernel)) (by decide +kernel)
theorem lv_L_232 : LV RL 232 mX10_back 0 := ⟨lc_X10_back, mw_1639, mw_1640, mw_1641⟩
theorem mw_1645 : (Cond.selects "SoupOrHorsesModel" ({ cls := "SoupOrHorsesModel", name := "status", desc := "(I)I" } : Jvm.MethodName) ({ cls := "SoupOrHorsesModel", name := "status", desc := "(I)I" } : Jvm.MethodName)) ∈ WS := tb_7 (List.mem_of_getElem? (i := 205) (by decide +kernel)) (by decide +kernel)
theorem mw_1643 : (Cond.methodLink "SoupOrHorsesLaw" (236 : Nat) ({ cls := "SoupOrHorsesModel", name := "status", desc := "(I)I" } : Jvm.MethodName)) ∈ WS := tb_7 (List.mem_of_getElem? (i := 203) (by decide +kernel)) (by decide +kernel)
theorem mw_1644 : (Cond.instanceMethod ({ cls := "SoupOrHorsesModel", name := "status", desc := "(I)I" } : Jvm.MethodName)) ∈ WS := tb_7 (List.mem_of_getElem? (i := 204) (by decide +kernel)) (by decide +kernel)
theorem lv_L_236 : LV RL 236 mX10_status 1 := ⟨lc_X10_status, mw_1643, mw_1644, mw_1645⟩
theorem mw_1647 : (Cond.methodLink "SoupOrHorsesModel" (349 : Nat) ({ cls := "SoupOrHorsesModel", name := "sumOf", desc := "([II)I" } : Jvm.MethodName)) ∈ WS := tb_7 (List.mem_of_getElem? (i := 207) (by decide +kernel)) (by decide +kernel)
theorem mw_1648 : (Cond.static ({ cls := "SoupOrHorsesModel", name := "sumOf", desc := "([II)I" } : Jvm.MethodName)) ∈ WS := tb_7 (List.mem_of_getElem? (i := 208) (by decide +kernel)) (by decide +kernel)
theorem ls_X10_349 : LSt RX10 349 mX10_sumOf 2 := ⟨lc_X10_sumOf, mw_1647, mw_1648⟩
theorem mw_31 : (Cond.instanceMethod ({ cls := "SoupOrHorses$Camp", name := "<init>", desc := "()V" } : Jvm.MethodName)) ∈ WS := tb_1 (List.mem_of_getElem? (i := 31) (by decide +kernel)) (by decide +kernel)
theorem lin_X9_9 : LIN RX9 9 mX0_init 0 := ⟨lc_X0_init, ⟨rfl, by decide +kernel⟩, mw_31, rfl, rfl⟩
theorem mw_97 : (Cond.instanceMethod ({ cls := "SoupOrHorses$Shelf", name := "<init>", desc := "()V" } : Jvm.MethodName)) ∈ WS := tb_1 (List.mem_of_getElem? (i := 97) (by decide +kernel)) (by decide +kernel)
theorem lin_X9_32 : LIN RX9 32 mX7_init 0 := ⟨lc_X7_init, ⟨rfl, by decide +kernel⟩, mw_97, rfl, rfl⟩
theorem mw_116 : (Cond.instanceMethod ({ cls := "SoupOrHorses$Tape", name := "<init>", desc := "()V" } : Jvm.MethodName)) ∈ WS := tb_1 (List.mem_of_getElem? (i := 116) (by decide +kernel)) (by decide +kernel)
theorem lin_X9_35 : LIN RX9 35 mX8_init 0 := ⟨lc_X8_init, ⟨rfl, by decide +kernel⟩, mw_116, rfl, rfl⟩
theorem mw_138 : (Cond.instanceMethod ({ cls := "SoupOrHorses$Hearing", name := "<init>", desc := "()V" } : Jvm.MethodName)) ∈ WS := tb_1 (List.mem_of_getElem? (i := 138) (by decide +kernel)) (by decide +kernel)
theorem lin_X9_42 : LIN RX9 42 mX2_init 0 := ⟨lc_X2_init, ⟨rfl, by decide +kernel⟩, mw_138, rfl, rfl⟩
theorem mw_157 : (Cond.instanceMethod ({ cls := "SoupOrHorses$Crowd", name := "<init>", desc := "()V" } : Jvm.MethodName)) ∈ WS := tb_1 (List.mem_of_getElem? (i := 157) (by decide +kernel)) (by decide +kernel)
theorem lin_X9_49 : LIN RX9 49 mX1_init 0 := ⟨lc_X1_init, ⟨rfl, by decide +kernel⟩, mw_157, rfl, rfl⟩
theorem mw_179 : (Cond.instanceMethod ({ cls := "SoupOrHorses$Likeness", name := "<init>", desc := "()V" } : Jvm.MethodName)) ∈ WS := tb_1 (List.mem_of_getElem? (i := 179) (by decide +kernel)) (by decide +kernel)
theorem lin_X9_56 : LIN RX9 56 mX4_init 0 := ⟨lc_X4_init, ⟨rfl, by decide +kernel⟩, mw_179, rfl, rfl⟩
theorem mw_25 : (Cond.methodLink "SoupOrHorses" (1 : Nat) ({ cls := "java/lang/Object", name := "<init>", desc := "()V" } : Jvm.MethodName)) ∈ WS := tb_1 (List.mem_of_getElem? (i := 25) (by decide +kernel)) (by decide +kernel)
theorem mw_33 : (Cond.methodLink "SoupOrHorses$Camp" (3 : Nat) ({ cls := "java/lang/Object", name := "<init>", desc := "()V" } : Jvm.MethodName)) ∈ WS := tb_1 (List.mem_of_getElem? (i := 33) (by decide +kernel)) (by decide +kernel)
theorem mw_99 : (Cond.methodLink "SoupOrHorses$Shelf" (3 : Nat) ({ cls := "java/lang/Object", name := "<init>", desc := "()V" } : Jvm.MethodName)) ∈ WS := tb_1 (List.mem_of_getElem? (i := 99) (by decide +kernel)) (by decide +kernel)
theorem mw_118 : (Cond.methodLink "SoupOrHorses$Tape" (3 : Nat) ({ cls := "java/lang/Object", name := "<init>", desc := "()V" } : Jvm.MethodName)) ∈ WS := tb_1 (List.mem_of_getElem? (i := 118) (by decide +kernel)) (by decide +kernel)
theorem mw_140 : (Cond.methodLink "SoupOrHorses$Hearing" (1 : Nat) ({ cls := "java/lang/Object", name := "<init>", desc := "()V" } : Jvm.MethodName)) ∈ WS := tb_1 (List.mem_of_getElem? (i := 140) (by decide +kernel)) (by decide +kernel)
theorem mw_159 : (Cond.methodLink "SoupOrHorses$Crowd" (3 : Nat) ({ cls := "java/lang/Object", name := "<init>", desc := "()V" } : Jvm.MethodName)) ∈ WS := tb_1 (List.mem_of_getElem? (i := 159) (by decide +kernel)) (by decide +kernel)
theorem mw_181 : (Cond.methodLink "SoupOrHorses$Likeness" (3 : Nat) ({ cls := "java/lang/Object", name := "<init>", desc := "()V" } : Jvm.MethodName)) ∈ WS := tb_1 (List.mem_of_getElem? (i := 181) (by decide +kernel)) (by decide +kernel)
theorem mw_281 : (Cond.methodLink "SoupOrHorses$Shelf" (67 : Nat) ({ cls := "java/lang/System", name := "arraycopy", desc := "(Ljava/lang/Object;ILjava/lang/Object;II)V" } : Jvm.MethodName)) ∈ WS := tb_2 (List.mem_of_getElem? (i := 41) (by decide +kernel)) (by decide +kernel)
theorem mw_478 : (Cond.methodLink "SoupOrHorses$Camp" (57 : Nat) ({ cls := "java/lang/System", name := "arraycopy", desc := "(Ljava/lang/Object;ILjava/lang/Object;II)V" } : Jvm.MethodName)) ∈ WS := tb_2 (List.mem_of_getElem? (i := 238) (by decide +kernel)) (by decide +kernel)
theorem mw_1091 : (Cond.methodLink "SoupOrHorsesModel" (1 : Nat) ({ cls := "java/lang/Object", name := "<init>", desc := "()V" } : Jvm.MethodName)) ∈ WS := tb_5 (List.mem_of_getElem? (i := 131) (by decide +kernel)) (by decide +kernel)
theorem mw_26 : (Cond.instanceMethod ({ cls := "java/lang/Object", name := "<init>", desc := "()V" } : Jvm.MethodName)) ∈ WS := tb_1 (List.mem_of_getElem? (i := 26) (by decide +kernel)) (by decide +kernel)
theorem mw_27 : (Cond.code ({ cls := "java/lang/Object", name := "<init>", desc := "()V" } : Jvm.MethodName) object_method_1_code (1 : Nat) (Option.none : Option Jvm.ClassFile.FieldType)) ∈ WS := tb_1 (List.mem_of_getElem? (i := 27) (by decide +kernel)) (by decide +kernel)
theorem mw_282 : (Cond.static ({ cls := "java/lang/System", name := "arraycopy", desc := "(Ljava/lang/Object;ILjava/lang/Object;II)V" } : Jvm.MethodName)) ∈ WS := tb_2 (List.mem_of_getElem? (i := 42) (by decide +kernel)) (by decide +kernel)
theorem mw_516 : (Cond.fieldLink "java/lang/String" (38 : Nat) "java/lang/String" "COMPACT_STRINGS" "Z") ∈ WS := tb_3 (List.mem_of_getElem? (i := 36) (by decide +kernel)) (by decide +kernel)
theorem mw_532 : (Cond.fieldLink "java/lang/String" (1053 : Nat) "jdk/internal/util/Preconditions" "SIOOBE_FORMATTER" "Ljava/util/function/BiFunction;") ∈ WS := tb_3 (List.mem_of_getElem? (i := 52) (by decide +kernel)) (by decide +kernel)
theorem mw_550 : (Cond.fieldLink "java/lang/StringUTF16" (44 : Nat) "java/lang/StringUTF16" "$assertionsDisabled" "Z") ∈ WS := tb_3 (List.mem_of_getElem? (i := 70) (by decide +kernel)) (by decide +kernel)
theorem mw_552 : (Cond.fieldLink "java/lang/StringUTF16" (59 : Nat) "java/lang/StringUTF16" "HI_BYTE_SHIFT" "I") ∈ WS := tb_3 (List.mem_of_getElem? (i := 72) (by decide +kernel)) (by decide +kernel)
theorem mw_554 : (Cond.fieldLink "java/lang/StringUTF16" (63 : Nat) "java/lang/StringUTF16" "LO_BYTE_SHIFT" "I") ∈ WS := tb_3 (List.mem_of_getElem? (i := 74) (by decide +kernel)) (by decide +kernel)
theorem mw_1653 : (Cond.fieldLink "java/lang/String" (9 : Nat) "java/lang/String" "value" "[B") ∈ WS := tb_7 (List.mem_of_getElem? (i := 213) (by decide +kernel)) (by decide +kernel)
theorem mw_1654 : (Cond.fieldLink "java/lang/String" (15 : Nat) "java/lang/String" "coder" "B") ∈ WS := tb_7 (List.mem_of_getElem? (i := 214) (by decide +kernel)) (by decide +kernel)
