/-! tables, by program (wip/gen/gen2.py) out of the claim's own words -/
abbrev vwCl : List vw_C := [(RX0, TX0, 2), (RX1, TX1, 13), (RX2, TX2, 6), (RX3, TX3, 11), (RX4, TX4, 5), (RX5, TX5, 9), (RX6, TX6, 6), (RX7, TX7, 6), (RX8, TX8, 20)]
def rnl : List String := [RX0, RX1, RX2, RX3, RX4, RX5, RX6, RX7, RX8, RJ6, RJ9, RL, RJ0]
def rnm (k : Nat) : String := rnl.getD k ""
def ftl : List (List Nat) := [[3, 0], [3, 3, 3, 3, 3, 0, 0, 0, 0, 0, 1, 1, 1], [3, 0, 0, 0, 0, 0], [3, 3, 3, 0, 0, 0, 0, 0, 0, 0, 0], [3, 3, 3, 0, 0], [3, 3, 3, 3, 3, 0, 0, 0, 0], [3, 0, 0, 0, 0, 0], [3, 3, 3, 3, 3, 0], [0, 3, 0, 0, 0, 0, 0, 0, 0, 0, 2, 3, 3, 3, 0, 1, 0, 3, 0, 0]]
def ftc (c k : Nat) : Nat := (ftl.getD c []).getD k 0
def nfl : List Nat := [2, 13, 6, 11, 5, 9, 6, 6, 20]
def nf (c : Nat) : Nat := nfl.getD c 0
def nHist_init : Nat := 0
def nHist_keep : Nat := 1
def nHist_takeBack : Nat := 2
def nMemb_init : Nat := 3
def nMemb_begin : Nat := 4
def nMemb_copyFrom : Nat := 5
def nMemb_collectFor : Nat := 6
def nMemb_writeRow : Nat := 7
def nMess_init : Nat := 8
def nMess_copyFrom : Nat := 9
def nNet_init : Nat := 10
def nNet_begin : Nat := 11
def nNet_copyFrom : Nat := 12
def nNet_isMember : Nat := 13
def nNet_bitsOf : Nat := 14
def nNet_greatestMark : Nat := 15
def nNet_passesFrom : Nat := 16
def nNet_ofMember : Nat := 17
def nNet_ofOthers : Nat := 18
def nNet_ofPass : Nat := 19
def nNet_countOnWay : Nat := 20
def nNet_find : Nat := 21
def nNet_act : Nat := 22
def nNet_askBy : Nat := 23
def nNet_leaveBy : Nat := 24
def nNet_suspectBy : Nat := 25
def nNet_deliverOn : Nat := 26
def nNet_loseOn : Nat := 27
def nNet_settleBy : Nat := 28
def nNet_deliver : Nat := 29
def nNet_takeRequest : Nat := 30
def nNet_takePass : Nat := 31
def nNet_takeDoubt : Nat := 32
def nNet_takeHave : Nat := 33
def nNet_takeVote : Nat := 34
def nNet_comeIn : Nat := 35
def nNet_handOn : Nat := 36
def nNet_postToOthers : Nat := 37
def nNet_post : Nat := 38
def nNet_take : Nat := 39
def nPass_init : Nat := 40
def nPass_begin : Nat := 41
def nPass_copyFrom : Nat := 42
def nPass_placeInQueue : Nat := 43
def nPass_putBehind : Nat := 44
def nPass_takeOut : Nat := 45
def nPass_placeOfNext : Nat := 46
def nPass_waitOnce : Nat := 47
def nScr_init : Nat := 48
def nScr_read : Nat := 49
def nScr_readMembers : Nat := 50
def nScr_readRanks : Nat := 51
def nScr_readActs : Nat := 52
def nScr_readAct : Nat := 53
def nScr_actOf : Nat := 54
def nScr_readNumber : Nat := 55
def nScr_readSign : Nat := 56
def nScr_refuse : Nat := 57
def nTape_init : Nat := 58
def nTape_add : Nat := 59
def nTape_next : Nat := 60
def nTape_kindOfRun : Nat := 61
def nTape_isWord : Nat := 62
def nTape_isBlank : Nat := 63
def nTape_isLetter : Nat := 64
def nTape_isDigit : Nat := 65
def nTok_init : Nat := 66
def nTok_feed : Nat := 67
def nTok_end : Nat := 68
def nTok_text : Nat := 69
def nTok_fault : Nat := 70
def nTok_now : Nat := 71
def nTok_pass : Nat := 72
def nTok_way : Nat := 73
def nTok_message : Nat := 74
def nTok_would : Nat := 75
def nTok_soon : Nat := 76
def nTok_order : Nat := 77
def nTok_ask : Nat := 78
def nTok_leave : Nat := 79
def nTok_suspect : Nat := 80
def nTok_send : Nat := 81
def nTok_lose : Nat := 82
def nTok_settle : Nat := 83
def nTok_undo : Nat := 84
def nTok_kept : Nat := 85
def nMod_thrown : Nat := 86
def nMod_refuse : Nat := 87
def nMod_isIn : Nat := 88
def nMod_lays : Nat := 89
def nMod_feed : Nat := 90
def nMod_end : Nat := 91
def nMod_tapeAt : Nat := 92
def nMod_isDigit : Nat := 93
def nMod_isLetter : Nat := 94
def nMod_go : Nat := 95
def nMod_three : Nat := 96
def nMod_six : Nat := 97
def nMod_four : Nat := 98
def nMod_isWord : Nat := 99
def nMod_bad : Nat := 100
def nMod_init : Nat := 101
def nMod_begins : Nat := 102
def nMod_at : Nat := 103
def nMod_its : Nat := 104
def nMod_isMember : Nat := 105
def nMod_has : Nat := 106
def nMod_sent : Nat := 107
def nMod_sends : Nat := 108
def nMod_sendsAll : Nat := 109
def nMod_placeIn : Nat := 110
def nMod_takesOut : Nat := 111
def nMod_comesIn : Nat := 112
def nMod_laysRow : Nat := 113
def nMod_loses : Nat := 114
def nMod_urge : Nat := 115
def nMod_handsOn : Nat := 116
def nMod_comes : Nat := 117
def nMod_dies : Nat := 118
def nMod_dropsVotes : Nat := 119
def nMod_leaves : Nat := 120
def nMod_takesMessage : Nat := 121
def nMod_firstOf : Nat := 122
def nMod_delivers : Nat := 123
def nMod_asked : Nat := 124
def nMod_passed : Nat := 125
def nMod_doubted : Nat := 126
def nMod_voted : Nat := 127
def nMod_asks : Nat := 128
def nMod_leavesTo : Nat := 129
def nMod_suspects : Nat := 130
def nMod_sendsFirst : Nat := 131
def nMod_losesFirst : Nat := 132
def nMod_settlesOnce : Nat := 133
def nMod_settles : Nat := 134
def nMod_told : Nat := 135
def nMod_readEnd : Nat := 136
def nMod_readMembers : Nat := 137
def nMod_isRank : Nat := 138
def nMod_readRank : Nat := 139
def nMod_actHere : Nat := 140
def nMod_does : Nat := 141
def nMod_readAct : Nat := 142
def nMod_text : Nat := 143
def nMod_back : Nat := 144
def nMod_fault : Nat := 145
def nMod_bitsOf : Nat := 146
def nMod_passes : Nat := 147
def nMod_newest : Nat := 148
def nMod_now : Nat := 149
def nMod_member : Nat := 150
def nMod_pass : Nat := 151
def nMod_areTwo : Nat := 152
def nMod_way : Nat := 153
def nMod_message : Nat := 154
def nMod_keeps : Nat := 155
def nMod_would : Nat := 156
def nMod_soon : Nat := 157
def nMod_order : Nat := 158
def nMod_snap : Nat := 159
def nMod_byHand : Nat := 160
def nMod_ask : Nat := 161
def nMod_leave : Nat := 162
def nMod_suspect : Nat := 163
def nMod_send : Nat := 164
def nMod_lose : Nat := 165
def nMod_settle : Nat := 166
def nMod_undo : Nat := 167
def nInt_bitCount : Nat := 168
def nMath_max : Nat := 169
def nMath_min : Nat := 170
def nStr_length : Nat := 171
def nStr_charAt : Nat := 172
def nLaw_law : Nat := 173
def mtl : List ME := [
  (yX0_init, cX0_init, 1, none, 0, 1, 10),
  (yX0_keep, cX0_keep, 4, (some (.object "TravelToken$Net")), 0, 292, 1786),
  (yX0_takeBack, cX0_takeBack, 3, (some (.object "TravelToken$Net")), 0, 0, 0),
  (yX1_init, cX1_init, 1, none, 1, 8, 47),
  (yX1_begin, cX1_begin, 3, none, 1, 0, 0),
  (yX1_copyFrom, cX1_copyFrom, 3, none, 1, 0, 0),
  (yX1_collectFor, cX1_collectFor, 2, none, 1, 0, 0),
  (yX1_writeRow, cX1_writeRow, 2, none, 1, 0, 0),
  (yX2_init, cX2_init, 1, none, 2, 4, 23),
  (yX2_copyFrom, cX2_copyFrom, 2, none, 2, 0, 0),
  (yX3_init, cX3_init, 2, none, 3, 291, 1775),
  (yX3_begin, cX3_begin, 4, none, 3, 0, 0),
  (yX3_copyFrom, cX3_copyFrom, 3, none, 3, 0, 0),
  (yX3_isMember, cX3_isMember, 2, (some .boolean), 3, 0, 0),
  (yX3_bitsOf, cX3_bitsOf, 4, (some .int), 3, 0, 0),
  (yX3_greatestMark, cX3_greatestMark, 3, (some .int), 3, 0, 0),
  (yX3_passesFrom, cX3_passesFrom, 4, (some .int), 3, 0, 0),
  (yX3_ofMember, cX3_ofMember, 4, (some .int), 3, 0, 0),
  (yX3_ofOthers, cX3_ofOthers, 4, (some .int), 3, 0, 0),
  (yX3_ofPass, cX3_ofPass, 5, (some .int), 3, 0, 0),
  (yX3_countOnWay, cX3_countOnWay, 5, (some .int), 3, 0, 0),
  (yX3_find, cX3_find, 6, (some .int), 3, 0, 0),
  (yX3_act, cX3_act, 4, (some .int), 3, 0, 0),
  (yX3_askBy, cX3_askBy, 4, (some .int), 3, 0, 0),
  (yX3_leaveBy, cX3_leaveBy, 3, (some .int), 3, 0, 0),
  (yX3_suspectBy, cX3_suspectBy, 3, (some .int), 3, 0, 0),
  (yX3_deliverOn, cX3_deliverOn, 3, (some .int), 3, 0, 0),
  (yX3_loseOn, cX3_loseOn, 4, (some .int), 3, 0, 0),
  (yX3_settleBy, cX3_settleBy, 4, (some .int), 3, 0, 0),
  (yX3_deliver, cX3_deliver, 3, (some .int), 3, 0, 0),
  (yX3_takeRequest, cX3_takeRequest, 2, none, 3, 0, 0),
  (yX3_takePass, cX3_takePass, 2, none, 3, 0, 0),
  (yX3_takeDoubt, cX3_takeDoubt, 3, none, 3, 0, 0),
  (yX3_takeHave, cX3_takeHave, 2, none, 3, 0, 0),
  (yX3_takeVote, cX3_takeVote, 4, none, 3, 0, 0),
  (yX3_comeIn, cX3_comeIn, 2, none, 3, 0, 0),
  (yX3_handOn, cX3_handOn, 6, (some .int), 3, 0, 0),
  (yX3_postToOthers, cX3_postToOthers, 6, none, 3, 0, 0),
  (yX3_post, cX3_post, 7, none, 3, 0, 0),
  (yX3_take, cX3_take, 4, none, 3, 0, 0),
  (yX4_init, cX4_init, 1, none, 4, 3, 18),
  (yX4_begin, cX4_begin, 3, none, 4, 0, 0),
  (yX4_copyFrom, cX4_copyFrom, 3, none, 4, 0, 0),
  (yX4_placeInQueue, cX4_placeInQueue, 3, (some .int), 4, 0, 0),
  (yX4_putBehind, cX4_putBehind, 2, none, 4, 0, 0),
  (yX4_takeOut, cX4_takeOut, 3, none, 4, 0, 0),
  (yX4_placeOfNext, cX4_placeOfNext, 6, (some .int), 4, 0, 0),
  (yX4_waitOnce, cX4_waitOnce, 2, none, 4, 0, 0),
  (yX5_init, cX5_init, 1, none, 5, 5, 406),
  (yX5_read, cX5_read, 3, none, 5, 0, 0),
  (yX5_readMembers, cX5_readMembers, 2, (some .boolean), 5, 0, 0),
  (yX5_readRanks, cX5_readRanks, 4, (some .boolean), 5, 0, 0),
  (yX5_readActs, cX5_readActs, 2, none, 5, 0, 0),
  (yX5_readAct, cX5_readAct, 5, (some .boolean), 5, 0, 0),
  (yX5_actOf, cX5_actOf, 1, (some .int), 5, 0, 0),
  (yX5_readNumber, cX5_readNumber, 4, (some .boolean), 5, 0, 0),
  (yX5_readSign, cX5_readSign, 2, (some .boolean), 5, 0, 0),
  (yX5_refuse, cX5_refuse, 3, (some .boolean), 5, 0, 0),
  (yX6_init, cX6_init, 1, none, 6, 1, 640),
  (yX6_add, cX6_add, 3, none, 6, 0, 0),
  (yX6_next, cX6_next, 2, none, 6, 0, 0),
  (yX6_kindOfRun, cX6_kindOfRun, 3, (some .int), 6, 0, 0),
  (yX6_isWord, cX6_isWord, 3, (some .boolean), 6, 0, 0),
  (yX6_isBlank, cX6_isBlank, 1, (some .boolean), 6, 0, 0),
  (yX6_isLetter, cX6_isLetter, 1, (some .boolean), 6, 0, 0),
  (yX6_isDigit, cX6_isDigit, 1, (some .boolean), 6, 0, 0),
  (yX7_init, cX7_init, 1, none, 7, 594, 4645),
  (yX7_feed, cX7_feed, 6, (some .int), 7, 0, 0),
  (yX7_end, cX7_end, 2, (some .boolean), 7, 0, 0),
  (yX7_text, cX7_text, 3, (some .int), 7, 0, 0),
  (yX7_fault, cX7_fault, 1, (some .int), 7, 0, 0),
  (yX7_now, cX7_now, 2, (some .int), 7, 0, 0),
  (yX7_pass, cX7_pass, 3, (some .int), 7, 0, 0),
  (yX7_way, cX7_way, 3, (some .int), 7, 0, 0),
  (yX7_message, cX7_message, 7, (some .int), 7, 0, 0),
  (yX7_would, cX7_would, 4, (some .int), 7, 0, 0),
  (yX7_soon, cX7_soon, 3, (some .int), 7, 0, 0),
  (yX7_order, cX7_order, 4, (some .int), 7, 0, 0),
  (yX7_ask, cX7_ask, 2, (some .int), 7, 292, 1786),
  (yX7_leave, cX7_leave, 2, (some .int), 7, 292, 1786),
  (yX7_suspect, cX7_suspect, 2, (some .int), 7, 292, 1786),
  (yX7_send, cX7_send, 3, (some .int), 7, 292, 1786),
  (yX7_lose, cX7_lose, 3, (some .int), 7, 292, 1786),
  (yX7_settle, cX7_settle, 2, (some .int), 7, 292, 1786),
  (yX7_undo, cX7_undo, 1, (some .int), 7, 0, 0),
  (yX7_kept, cX7_kept, 2, (some .int), 7, 292, 1786),
  (yX8_thrown, cX8_thrown, 1, (some .int), 8, 0, 0),
  (yX8_refuse, cX8_refuse, 1, (some .int), 8, 0, 0),
  (yX8_isIn, cX8_isIn, 3, (some .boolean), 8, 0, 0),
  (yX8_lays, cX8_lays, 3, none, 8, 0, 0),
  (yX8_feed, cX8_feed, 6, (some .int), 8, 0, 0),
  (yX8_end, cX8_end, 2, (some .boolean), 8, 0, 0),
  (yX8_tapeAt, cX8_tapeAt, 2, (some .int), 8, 0, 0),
  (yX8_isDigit, cX8_isDigit, 1, (some .boolean), 8, 0, 0),
  (yX8_isLetter, cX8_isLetter, 1, (some .boolean), 8, 0, 0),
  (yX8_go, cX8_go, 5, none, 8, 0, 0),
  (yX8_three, cX8_three, 3, (some .long), 8, 0, 0),
  (yX8_six, cX8_six, 6, (some .long), 8, 0, 0),
  (yX8_four, cX8_four, 4, (some .long), 8, 0, 0),
  (yX8_isWord, cX8_isWord, 3, (some .boolean), 8, 0, 0),
  (yX8_bad, cX8_bad, 2, (some .boolean), 8, 0, 0),
  (yX8_init, cX8_init, 1, none, 8, 5, 27382),
  (yX8_begins, cX8_begins, 3, none, 8, 0, 0),
  (yX8_at, cX8_at, 2, (some .int), 8, 0, 0),
  (yX8_its, cX8_its, 3, (some .int), 8, 0, 0),
  (yX8_isMember, cX8_isMember, 2, (some .boolean), 8, 0, 0),
  (yX8_has, cX8_has, 2, (some .boolean), 8, 0, 0),
  (yX8_sent, cX8_sent, 2, (some .int), 8, 0, 0),
  (yX8_sends, cX8_sends, 8, none, 8, 0, 0),
  (yX8_sendsAll, cX8_sendsAll, 6, none, 8, 0, 0),
  (yX8_placeIn, cX8_placeIn, 4, (some .int), 8, 0, 0),
  (yX8_takesOut, cX8_takesOut, 4, none, 8, 0, 0),
  (yX8_comesIn, cX8_comesIn, 4, none, 8, 0, 0),
  (yX8_laysRow, cX8_laysRow, 3, none, 8, 0, 0),
  (yX8_loses, cX8_loses, 3, none, 8, 0, 0),
  (yX8_urge, cX8_urge, 3, (some .int), 8, 0, 0),
  (yX8_handsOn, cX8_handsOn, 5, (some .int), 8, 0, 0),
  (yX8_comes, cX8_comes, 2, none, 8, 0, 0),
  (yX8_dies, cX8_dies, 2, none, 8, 0, 0),
  (yX8_dropsVotes, cX8_dropsVotes, 3, none, 8, 0, 0),
  (yX8_leaves, cX8_leaves, 2, none, 8, 0, 0),
  (yX8_takesMessage, cX8_takesMessage, 3, none, 8, 0, 0),
  (yX8_firstOf, cX8_firstOf, 4, (some .int), 8, 0, 0),
  (yX8_delivers, cX8_delivers, 3, (some .int), 8, 0, 0),
  (yX8_asked, cX8_asked, 3, none, 8, 0, 0),
  (yX8_passed, cX8_passed, 3, none, 8, 0, 0),
  (yX8_doubted, cX8_doubted, 4, none, 8, 0, 0),
  (yX8_voted, cX8_voted, 6, none, 8, 0, 0),
  (yX8_asks, cX8_asks, 2, (some .int), 8, 0, 0),
  (yX8_leavesTo, cX8_leavesTo, 2, (some .int), 8, 0, 0),
  (yX8_suspects, cX8_suspects, 3, (some .int), 8, 0, 0),
  (yX8_sendsFirst, cX8_sendsFirst, 4, (some .int), 8, 0, 0),
  (yX8_losesFirst, cX8_losesFirst, 4, (some .int), 8, 0, 0),
  (yX8_settlesOnce, cX8_settlesOnce, 2, (some .boolean), 8, 0, 0),
  (yX8_settles, cX8_settles, 3, (some .int), 8, 0, 0),
  (yX8_told, cX8_told, 3, (some .boolean), 8, 0, 0),
  (yX8_readEnd, cX8_readEnd, 1, (some .boolean), 8, 0, 0),
  (yX8_readMembers, cX8_readMembers, 1, (some .boolean), 8, 0, 0),
  (yX8_isRank, cX8_isRank, 1, (some .boolean), 8, 0, 0),
  (yX8_readRank, cX8_readRank, 3, (some .boolean), 8, 0, 0),
  (yX8_actHere, cX8_actHere, 1, (some .int), 8, 0, 0),
  (yX8_does, cX8_does, 4, (some .int), 8, 0, 0),
  (yX8_readAct, cX8_readAct, 3, (some .boolean), 8, 0, 0),
  (yX8_text, cX8_text, 3, (some .int), 8, 0, 0),
  (yX8_back, cX8_back, 2, none, 8, 0, 0),
  (yX8_fault, cX8_fault, 1, (some .int), 8, 0, 0),
  (yX8_bitsOf, cX8_bitsOf, 4, (some .int), 8, 0, 0),
  (yX8_passes, cX8_passes, 4, (some .int), 8, 0, 0),
  (yX8_newest, cX8_newest, 3, (some .int), 8, 0, 0),
  (yX8_now, cX8_now, 2, (some .int), 8, 0, 0),
  (yX8_member, cX8_member, 4, (some .int), 8, 0, 0),
  (yX8_pass, cX8_pass, 4, (some .int), 8, 0, 0),
  (yX8_areTwo, cX8_areTwo, 3, (some .boolean), 8, 0, 0),
  (yX8_way, cX8_way, 5, (some .int), 8, 0, 0),
  (yX8_message, cX8_message, 7, (some .int), 8, 0, 0),
  (yX8_keeps, cX8_keeps, 2, none, 8, 0, 0),
  (yX8_would, cX8_would, 5, (some .int), 8, 0, 0),
  (yX8_soon, cX8_soon, 4, (some .int), 8, 0, 0),
  (yX8_order, cX8_order, 5, (some .int), 8, 0, 0),
  (yX8_snap, cX8_snap, 2, none, 8, 0, 0),
  (yX8_byHand, cX8_byHand, 5, (some .int), 8, 0, 0),
  (yX8_ask, cX8_ask, 2, (some .int), 8, 0, 0),
  (yX8_leave, cX8_leave, 2, (some .int), 8, 0, 0),
  (yX8_suspect, cX8_suspect, 2, (some .int), 8, 0, 0),
  (yX8_send, cX8_send, 3, (some .int), 8, 0, 0),
  (yX8_lose, cX8_lose, 3, (some .int), 8, 0, 0),
  (yX8_settle, cX8_settle, 2, (some .int), 8, 0, 0),
  (yX8_undo, cX8_undo, 2, (some .int), 8, 0, 0),
  (yJ6_bitCount_0f7a4, cJ6_bitCount_0f7a4, 1, (some .int), 9, 0, 0),
  (yJ9_max_7cf53, cJ9_max_7cf53, 2, (some .int), 10, 0, 0),
  (yJ9_min_7cf53, cJ9_min_7cf53, 2, (some .int), 10, 0, 0),
  (yJ0_length_8abf5, cJ0_length_8abf5, 1, (some .int), 12, 0, 0),
  (yJ0_charAt_5068e, cJ0_charAt_5068e, 2, (some .char), 12, 0, 0),
  (yL_law, cL_law, 7, (some .boolean), 11, 674013, 7074066)]
def mth (n : Nat) : ME := mtl.getD n (yX0_init, cX0_init, 0, none, 0, 0, 0)
def flk : List (Nat × Nat × Nat × Nat × Nat) := [(6, 9, 6, 0, 34), (6, 15, 6, 1, 35), (7, 44, 6, 1, 36), (6, 19, 6, 2, 37), (5, 80, 6, 2, 38), (6, 22, 6, 3, 39), (5, 90, 6, 3, 40), (6, 25, 6, 4, 41), (5, 40, 6, 4, 42), (6, 28, 6, 5, 43), (5, 72, 6, 5, 44), (5, 9, 5, 0, 65), (7, 58, 5, 0, 66), (5, 15, 5, 1, 67), (7, 69, 5, 1, 68), (5, 18, 5, 2, 69), (7, 72, 5, 2, 70), (5, 21, 5, 3, 71), (7, 75, 5, 3, 72), (5, 24, 5, 4, 73), (7, 82, 5, 4, 74), (5, 27, 5, 5, 75), (7, 55, 5, 5, 76), (5, 31, 5, 6, 77), (7, 66, 5, 6, 78), (5, 34, 5, 7, 79), (7, 85, 5, 7, 80), (5, 37, 5, 8, 81), (7, 86, 5, 8, 82), (0, 11, 0, 0, 111), (0, 17, 0, 1, 112), (7, 89, 0, 1, 113), (4, 9, 4, 0, 140), (1, 65, 4, 0, 141), (3, 136, 4, 0, 142), (4, 15, 4, 1, 143), (3, 139, 4, 1, 144), (4, 18, 4, 2, 145), (3, 142, 4, 2, 146), (4, 21, 4, 3, 147), (3, 62, 4, 3, 148), (4, 25, 4, 4, 149), (3, 133, 4, 4, 150), (2, 12, 2, 0, 162), (3, 96, 2, 0, 163), (2, 18, 2, 1, 164), (3, 145, 2, 1, 165), (2, 22, 2, 2, 166), (3, 148, 2, 2, 167), (2, 25, 2, 3, 168), (3, 93, 2, 3, 169), (7, 139, 2, 3, 170), (2, 28, 2, 4, 171), (7, 144, 2, 4, 172), (3, 205, 2, 4, 173), (2, 31, 2, 5, 174), (7, 147, 2, 5, 175), (3, 208, 2, 5, 176), (1, 9, 1, 0, 197), (3, 127, 1, 0, 198), (1, 15, 1, 1, 199), (3, 105, 1, 1, 200), (1, 18, 1, 2, 201), (3, 130, 1, 2, 202), (1, 21, 1, 3, 203), (3, 224, 1, 3, 204), (1, 27, 1, 4, 205), (3, 58, 1, 4, 206), (1, 31, 1, 5, 207), (3, 109, 1, 5, 208), (1, 35, 1, 6, 209), (3, 112, 1, 6, 210), (1, 38, 1, 7, 211), (3, 85, 1, 7, 212), (1, 41, 1, 8, 213), (3, 121, 1, 8, 214), (1, 44, 1, 9, 215), (3, 124, 1, 9, 216), (1, 47, 1, 10, 217), (3, 115, 1, 10, 218), (1, 51, 1, 11, 219), (3, 118, 1, 11, 220), (7, 171, 1, 11, 221), (1, 54, 1, 12, 222), (3, 54, 1, 12, 223), (3, 11, 3, 0, 251), (7, 167, 3, 0, 252), (3, 19, 3, 1, 253), (7, 135, 3, 1, 254), (3, 24, 3, 2, 255), (3, 28, 3, 3, 256), (7, 92, 3, 3, 257), (3, 32, 3, 4, 258), (7, 95, 3, 4, 259), (3, 35, 3, 5, 260), (7, 104, 3, 5, 261), (3, 38, 3, 6, 262), (7, 107, 3, 6, 263), (3, 41, 3, 7, 264), (7, 110, 3, 7, 265), (3, 44, 3, 8, 266), (7, 113, 3, 8, 267), (3, 47, 3, 9, 268), (7, 160, 3, 9, 269), (3, 50, 3, 10, 270), (7, 157, 3, 10, 271), (7, 12, 7, 0, 295), (7, 19, 7, 1, 296), (7, 26, 7, 2, 297), (7, 33, 7, 3, 298), (7, 37, 7, 4, 299), (7, 40, 7, 5, 300), (8, 1, 8, 0, 802), (8, 7, 8, 1, 803), (8, 11, 8, 2, 804), (8, 18, 8, 3, 805), (8, 21, 8, 4, 806), (8, 24, 8, 5, 807), (8, 27, 8, 6, 808), (8, 41, 8, 7, 809), (8, 58, 8, 8, 810), (8, 61, 8, 9, 811), (8, 37, 8, 10, 812), (8, 70, 8, 11, 813), (8, 73, 8, 12, 814), (8, 76, 8, 13, 815), (8, 258, 8, 14, 816), (8, 122, 8, 15, 817), (8, 126, 8, 16, 818), (8, 79, 8, 17, 819), (8, 186, 8, 18, 820), (8, 213, 8, 19, 821)]
/-- calls: class, index, method, arguments, kind of the receiver, kind (0 static, 1 virtual, 2 special, 3 special of a nest mate), place -/
def clk : List (Nat × Nat × Nat × Nat × Nat × Nat × Nat) := [(11, 15, 66, 1, 8, 2, 22), (7, 32, 10, 1, 4, 2, 121), (11, 19, 67, 6, 8, 1, 314), (7, 47, 59, 2, 7, 1, 318), (11, 24, 68, 2, 8, 1, 322), (11, 29, 69, 1, 8, 1, 326), (7, 51, 49, 2, 6, 1, 330), (5, 45, 50, 2, 6, 1, 334), (5, 56, 60, 1, 7, 1, 338), (6, 31, 63, 1, 0, 0, 342), (6, 35, 170, 2, 0, 0, 345), (6, 41, 64, 1, 0, 0, 348), (6, 44, 65, 1, 0, 0, 351), (6, 47, 61, 3, 7, 1, 354), (5, 60, 62, 2, 7, 1, 359), (6, 50, 171, 1, 20, 1, 363), (6, 55, 172, 2, 20, 1, 373), (5, 64, 57, 3, 6, 1, 411), (5, 68, 55, 4, 6, 1, 415), (5, 75, 56, 2, 6, 1, 419), (5, 49, 51, 2, 6, 1, 423), (5, 52, 52, 2, 6, 1, 428), (5, 83, 53, 2, 6, 1, 432), (5, 86, 54, 1, 0, 0, 436), (7, 62, 11, 3, 4, 1, 445), (3, 67, 4, 2, 2, 1, 449), (1, 57, 6, 2, 2, 1, 453), (3, 71, 41, 2, 5, 1, 457), (7, 78, 22, 4, 4, 1, 461), (3, 151, 23, 2, 4, 1, 465), (3, 97, 13, 2, 4, 1, 469), (3, 170, 37, 5, 4, 1, 473), (3, 220, 38, 6, 4, 1, 477), (3, 155, 24, 2, 4, 1, 481), (3, 174, 36, 2, 4, 1, 485), (3, 232, 43, 2, 5, 1, 489), (3, 235, 45, 2, 5, 1, 493), (3, 238, 44, 2, 5, 1, 497), (3, 241, 46, 2, 5, 1, 501), (3, 245, 47, 1, 5, 1, 505), (3, 214, 7, 1, 2, 1, 509), (3, 211, 42, 2, 5, 1, 513), (3, 158, 25, 2, 4, 1, 517), (3, 177, 6, 2, 2, 1, 521), (3, 161, 26, 3, 4, 1, 522), (3, 180, 21, 4, 4, 1, 526), (3, 184, 29, 2, 4, 1, 530), (3, 187, 39, 2, 4, 1, 534), (3, 190, 30, 2, 4, 1, 538), (3, 88, 169, 2, 0, 0, 542), (3, 193, 31, 2, 4, 1, 545), (3, 217, 35, 2, 4, 1, 549), (3, 196, 32, 2, 4, 1, 553), (3, 199, 33, 2, 4, 1, 557), (3, 202, 34, 2, 4, 1, 561), (3, 227, 168, 1, 0, 0, 565), (3, 164, 27, 3, 4, 1, 571), (3, 167, 28, 2, 4, 1, 575), (11, 34, 70, 1, 8, 1, 579), (11, 38, 71, 2, 8, 1, 583), (7, 96, 16, 2, 4, 1, 587), (7, 100, 15, 1, 4, 1, 591), (7, 116, 14, 2, 4, 1, 595), (3, 81, 17, 3, 4, 1, 599), (3, 101, 18, 4, 4, 1, 603), (11, 52, 72, 3, 8, 1, 607), (7, 126, 19, 3, 4, 1, 611), (11, 56, 73, 3, 8, 1, 615), (7, 129, 20, 3, 4, 1, 619), (11, 60, 74, 5, 8, 1, 623), (7, 132, 21, 4, 4, 1, 627), (11, 65, 75, 3, 8, 1, 628), (7, 150, 12, 2, 4, 1, 632), (3, 74, 5, 2, 2, 1, 636), (1, 61, 42, 2, 5, 1, 640), (3, 78, 9, 2, 3, 1, 641), (2, 34, 42, 2, 5, 1, 645), (7, 154, 29, 2, 4, 1, 646), (11, 69, 76, 2, 8, 1, 647), (7, 163, 13, 2, 4, 1, 651), (7, 177, 28, 2, 4, 1, 652), (11, 73, 77, 2, 8, 1, 653), (11, 77, 78, 2, 8, 1, 657), (7, 180, 23, 2, 4, 1, 661), (7, 183, 85, 2, 8, 1, 662), (7, 202, 1, 2, 1, 1, 666), (0, 21, 10, 1, 4, 2, 670), (11, 81, 79, 2, 8, 1, 671), (7, 186, 24, 2, 4, 1, 675), (11, 85, 80, 2, 8, 1, 676), (7, 189, 25, 2, 4, 1, 680), (11, 89, 81, 3, 8, 1, 681), (7, 192, 26, 3, 4, 1, 685), (11, 93, 82, 3, 8, 1, 686), (7, 195, 27, 3, 4, 1, 690), (11, 97, 83, 2, 8, 1, 691), (11, 101, 84, 1, 8, 1, 695), (7, 198, 2, 2, 1, 1, 699), (7, 119, 17, 3, 4, 1, 711), (11, 49, 86, 1, 9, 1, 773), (11, 23, 90, 6, 9, 1, 777), (8, 14, 89, 2, 9, 1, 781), (11, 28, 91, 2, 9, 1, 786), (11, 18, 101, 1, 9, 2, 791), (8, 82, 102, 2, 9, 1, 795), (8, 85, 103, 2, 0, 0, 799), (11, 33, 143, 1, 9, 1, 863), (8, 189, 95, 1, 9, 1, 867), (8, 30, 94, 1, 0, 0, 871), (8, 34, 93, 1, 0, 0, 874), (8, 44, 92, 2, 9, 1, 877), (8, 243, 137, 1, 9, 1, 883), (8, 192, 97, 6, 0, 0, 887), (8, 54, 96, 3, 0, 0, 891), (8, 198, 99, 2, 9, 1, 895), (8, 183, 100, 2, 9, 1, 899), (8, 202, 135, 3, 9, 1, 903), (8, 89, 88, 3, 0, 0, 907), (8, 206, 136, 1, 9, 1, 910), (8, 246, 138, 1, 9, 1, 914), (8, 209, 98, 4, 0, 0, 918), (8, 249, 139, 1, 9, 1, 921), (8, 252, 142, 1, 9, 1, 925), (8, 235, 140, 1, 9, 1, 929), (8, 239, 141, 4, 9, 1, 935), (8, 220, 128, 2, 9, 1, 939), (8, 161, 105, 2, 9, 1, 943), (8, 93, 104, 3, 9, 1, 947), (8, 129, 106, 2, 9, 1, 951), (8, 158, 117, 2, 9, 1, 955), (8, 164, 109, 5, 9, 1, 959), (8, 99, 108, 6, 9, 1, 963), (8, 96, 107, 2, 0, 0, 967), (8, 176, 129, 2, 9, 1, 970), (8, 167, 120, 2, 9, 1, 974), (8, 152, 116, 2, 9, 1, 978), (8, 103, 110, 3, 9, 1, 982), (8, 106, 111, 3, 9, 1, 986), (8, 110, 112, 3, 9, 1, 990), (8, 113, 115, 3, 9, 1, 994), (8, 116, 113, 2, 9, 1, 998), (8, 119, 114, 2, 9, 1, 1002), (8, 223, 130, 2, 9, 1, 1006), (8, 145, 119, 2, 9, 1, 1010), (8, 226, 131, 3, 9, 1, 1014), (8, 170, 122, 3, 9, 1, 1018), (8, 173, 123, 2, 9, 1, 1022), (8, 132, 121, 2, 9, 1, 1026), (8, 135, 124, 3, 9, 1, 1030), (8, 138, 125, 2, 9, 1, 1034), (8, 155, 118, 2, 9, 1, 1038), (8, 141, 126, 4, 9, 1, 1042), (8, 148, 127, 5, 9, 1, 1046), (8, 229, 132, 3, 9, 1, 1050), (8, 232, 134, 2, 9, 1, 1054), (8, 179, 133, 1, 9, 1, 1058), (8, 255, 144, 1, 9, 1, 1062), (11, 37, 145, 1, 9, 1, 1066), (11, 42, 149, 2, 9, 1, 1070), (8, 261, 147, 2, 9, 1, 1074), (8, 264, 148, 1, 9, 1, 1078), (8, 267, 146, 2, 9, 1, 1082), (11, 48, 150, 3, 9, 1, 1086), (8, 270, 87, 1, 9, 1, 1090), (11, 55, 151, 3, 9, 1, 1094), (11, 59, 153, 3, 9, 1, 1098), (8, 273, 152, 3, 9, 1, 1102), (11, 64, 154, 5, 9, 1, 1106), (11, 68, 156, 3, 9, 1, 1110), (8, 276, 155, 1, 9, 1, 1114), (11, 72, 157, 2, 9, 1, 1118), (11, 76, 158, 2, 9, 1, 1122), (11, 80, 161, 2, 9, 1, 1126), (8, 282, 160, 4, 9, 1, 1130), (8, 279, 159, 1, 9, 1, 1134), (11, 84, 162, 2, 9, 1, 1138), (11, 88, 163, 2, 9, 1, 1142), (11, 92, 164, 3, 9, 1, 1146), (11, 96, 165, 3, 9, 1, 1150), (11, 100, 166, 2, 9, 1, 1154), (11, 104, 167, 1, 9, 1, 1158), (7, 11, 58, 1, 7, 3, 30), (7, 18, 48, 1, 6, 3, 61), (7, 25, 0, 1, 1, 3, 105), (3, 23, 8, 1, 3, 3, 130), (2, 11, 40, 1, 5, 3, 136), (3, 53, 3, 1, 2, 3, 191), (1, 26, 40, 1, 5, 3, 196)]
def oik : List (Nat × Nat × Nat) := [(7, 3, 25), (6, 3, 33), (5, 3, 64), (0, 3, 108), (3, 3, 124), (2, 3, 133), (4, 3, 139), (1, 3, 194), (8, 64, 794)]
def nwk : List (Nat × Nat × Nat × Nat) := [(11, 8, 7, 20), (7, 9, 6, 28), (7, 16, 5, 59), (7, 23, 0, 103), (0, 9, 3, 109), (7, 30, 3, 119), (3, 9, 1, 125), (3, 17, 2, 127), (2, 9, 4, 134), (1, 24, 4, 195), (11, 16, 8, 790)]
def kok : List (Nat × Nat × Int × Nat) := [(9, 265, 1431655765, 568), (9, 266, 858993459, 569), (9, 267, 252645135, 570)]
def lok : List (Nat × Nat × Int × Nat) := [(8, 48, 27, 881), (8, 50, 96, 882), (8, 52, 19683, 890), (8, 196, 19, 894), (8, 216, 5, 933), (8, 218, 20, 934)]
/-- String constants of class 5: index, number -/
def sok : List (Nat × Nat) := [(59, 0), (78, 1), (93, 2), (95, 3), (97, 4), (99, 5), (101, 6), (103, 7)]
/-- of each method the places of its words: code, initialized, static or instanceMethod; selects (in lw_tbl) -/
def mwl : List (Nat × Nat × Nat × Nat) := [(107, 4, 106, 0), (669, 4, 667, 742), (702, 4, 700, 775), (193, 8, 192, 0), (452, 8, 450, 525), (639, 8, 637, 712), (456, 8, 454, 529), (512, 8, 510, 585), (132, 6, 131, 0), (644, 6, 642, 717), (123, 5, 122, 0), (448, 5, 446, 521), (635, 5, 633, 708), (472, 5, 470, 545), (598, 5, 596, 671), (594, 5, 592, 667), (590, 5, 588, 663), (602, 5, 600, 675), (606, 5, 605, 18), (614, 5, 612, 687), (622, 5, 620, 695), (529, 5, 527, 602), (464, 5, 462, 537), (468, 5, 466, 541), (484, 5, 482, 557), (520, 5, 518, 593), (525, 5, 523, 598), (574, 5, 572, 647), (578, 5, 576, 651), (533, 5, 531, 606), (541, 5, 540, 12), (548, 5, 547, 13), (556, 5, 555, 15), (560, 5, 559, 16), (564, 5, 563, 17), (552, 5, 551, 14), (488, 5, 487, 10), (476, 5, 475, 8), (480, 5, 479, 9), (537, 5, 536, 11), (138, 7, 137, 0), (460, 7, 458, 533), (516, 7, 514, 589), (492, 7, 490, 565), (500, 7, 498, 573), (496, 7, 494, 569), (504, 7, 502, 577), (508, 7, 506, 581), (63, 3, 62, 0), (333, 3, 331, 406), (337, 3, 336, 0), (426, 3, 425, 5), (431, 3, 430, 6), (435, 3, 434, 7), (438, 3, 437, 0), (418, 3, 417, 3), (422, 3, 421, 4), (414, 3, 413, 2), (32, 2, 31, 0), (321, 2, 319, 394), (341, 2, 339, 414), (357, 2, 356, 1), (362, 2, 360, 435), (344, 2, 343, 0), (350, 2, 349, 0), (353, 2, 352, 0), (24, 1, 23, 0), (317, 1, 315, 390), (325, 1, 323, 398), (329, 1, 327, 402), (582, 1, 580, 655), (586, 1, 584, 659), (610, 1, 608, 683), (618, 1, 616, 691), (626, 1, 624, 699), (631, 1, 629, 704), (650, 1, 648, 723), (656, 1, 654, 729), (660, 1, 658, 733), (674, 1, 672, 747), (679, 1, 677, 752), (684, 1, 682, 757), (689, 1, 687, 762), (694, 1, 692, 767), (698, 1, 696, 771), (665, 1, 664, 19), (776, 9, 774, 849), (1093, 9, 1092, 69), (909, 9, 908, 0), (785, 9, 783, 21), (780, 9, 778, 853), (789, 9, 787, 862), (880, 9, 879, 24), (876, 9, 875, 0), (873, 9, 872, 0), (870, 9, 869, 23), (893, 9, 892, 0), (889, 9, 888, 0), (920, 9, 919, 0), (898, 9, 897, 26), (902, 9, 901, 27), (793, 9, 792, 0), (798, 9, 797, 22), (801, 9, 800, 0), (950, 9, 949, 37), (946, 9, 945, 36), (954, 9, 953, 38), (969, 9, 968, 0), (966, 9, 965, 41), (962, 9, 961, 40), (985, 9, 984, 45), (989, 9, 988, 46), (993, 9, 992, 47), (1001, 9, 1000, 49), (1005, 9, 1004, 50), (997, 9, 996, 48), (981, 9, 980, 44), (958, 9, 957, 39), (1041, 9, 1040, 59), (1013, 9, 1012, 52), (977, 9, 976, 43), (1029, 9, 1028, 56), (1021, 9, 1020, 54), (1025, 9, 1024, 55), (1033, 9, 1032, 57), (1037, 9, 1036, 58), (1045, 9, 1044, 60), (1049, 9, 1048, 61), (942, 9, 941, 35), (973, 9, 972, 42), (1009, 9, 1008, 51), (1017, 9, 1016, 53), (1053, 9, 1052, 62), (1061, 9, 1060, 64), (1057, 9, 1056, 63), (906, 9, 905, 28), (913, 9, 912, 29), (886, 9, 885, 25), (917, 9, 916, 30), (924, 9, 923, 31), (932, 9, 931, 33), (938, 9, 937, 34), (928, 9, 927, 32), (866, 9, 864, 939), (1065, 9, 1064, 65), (1069, 9, 1067, 1142), (1085, 9, 1084, 68), (1077, 9, 1076, 66), (1081, 9, 1080, 67), (1073, 9, 1071, 1146), (1089, 9, 1087, 1162), (1097, 9, 1095, 1170), (1105, 9, 1104, 70), (1101, 9, 1099, 1174), (1109, 9, 1107, 1182), (1117, 9, 1116, 71), (1113, 9, 1111, 1186), (1121, 9, 1119, 1194), (1125, 9, 1123, 1198), (1137, 9, 1136, 73), (1133, 9, 1132, 72), (1129, 9, 1127, 1202), (1141, 9, 1139, 1214), (1145, 9, 1143, 1218), (1149, 9, 1147, 1222), (1153, 9, 1151, 1226), (1157, 9, 1155, 1230), (1161, 9, 1159, 1234), (567, 15, 566, 0), (544, 10, 543, 0), (347, 10, 346, 0), (366, 11, 364, 439), (376, 11, 374, 449), (0, 0, 0, 0)]
def pnl : List Nat := [nMod_isIn, nMod_isDigit, nMod_isLetter, nMod_three, nMod_six, nMod_four, nMod_at, nMod_sent, 999, 999, nMod_its, nMod_isMember, nMod_has, 999, 999, 999, nNet_isMember, nTape_isBlank, nTape_isLetter, nTape_isDigit, nMath_max, nMath_min]
def lw_g : List Cond := lw_tbl.filter goodWord
/-- is an entry what the code and the tables have there? -/
def oke (m : ME) (e : EN) : Bool :=
  match e.2.1 with
  | .bipush n => decide (-128 ≤ n ∧ n ≤ 127)
  | .sipush n => decide (-32768 ≤ n ∧ n ≤ 32767)
  | .iconst n => decide (-1 ≤ n ∧ n ≤ 5)
  | .iinc k n => decide (-128 ≤ n ∧ n ≤ 127) && decide (k < m.2.2.1)
  | .istore_n k => decide (k.val < m.2.2.1)
  | .istore k => decide (k < m.2.2.1)
  | .astore_n k => decide (k.val < m.2.2.1)
  | .astore k => decide (k < m.2.2.1)
  | .goto o => decide ((e.1 : Int) + o = (e.2.2.2.1 : Int))
  | .if_icmp _ o => decide ((e.1 : Int) + o = (e.2.2.2.1 : Int))
  | .ifCond _ o => decide ((e.1 : Int) + o = (e.2.2.2.1 : Int))
  | .ifnonnull o => decide ((e.1 : Int) + o = (e.2.2.2.1 : Int))
  | .tableswitch d lo hi offs => decide ((e.1 : Int) + d = (e.2.2.2.1 : Int)) && decide (offs.toList.map (fun o => (e.1 : Int) + o) = e.2.2.2.2.2.2.map (fun (t : Nat) => (t : Int))) && decide ((e.2.2.2.2.2.2.length : Int) = hi - lo + 1)
  | .getfield i => flk.any (fun q => decide (q.1 = m.2.2.2.2.1 ∧ q.2.1 = i ∧ q.2.2.1 = e.2.2.2.1 ∧ q.2.2.2.1 = e.2.2.2.2.1)) && decide ((ftc e.2.2.2.1 e.2.2.2.2.1 : Int) = e.2.2.2.2.2.1)
  | .putfield i => flk.any (fun q => decide (q.1 = m.2.2.2.2.1 ∧ q.2.1 = i ∧ q.2.2.1 = e.2.2.2.1 ∧ q.2.2.2.1 = e.2.2.2.2.1)) && decide ((ftc e.2.2.2.1 e.2.2.2.2.1 : Int) = e.2.2.2.2.2.1) && (match vwCl[e.2.2.2.1]? with
    | some r => !(r.2.1 e.2.2.2.2.1).2.2.2 || (decide (m.1.name = "<init>") && decide (e.2.2.2.1 = m.2.2.2.2.1))
    | none => false)
  | .invokestatic i => clk.any (fun q => decide (q.1 = m.2.2.2.2.1 ∧ q.2.1 = i ∧ q.2.2.1 = e.2.2.2.1 ∧ q.2.2.2.1 = e.2.2.2.2.1 ∧ q.2.2.2.2.2.1 = 0)) && (match e.2.2.2.2.2.2 with
    | [] => true
    | [k] => decide (pnl[k]? = some e.2.2.2.1)
    | _ => false) && decide ((mth e.2.2.2.1).2.2.2.2.2.1 = 0 ∧ (mth e.2.2.2.1).2.2.2.2.2.2 = 0)
  | .invokevirtual i => clk.any (fun q => decide (q.1 = m.2.2.2.2.1 ∧ q.2.1 = i ∧ q.2.2.1 = e.2.2.2.1 ∧ q.2.2.2.1 = e.2.2.2.2.1 ∧ (q.2.2.2.2.1 : Int) = e.2.2.2.2.2.1 ∧ q.2.2.2.2.2.1 = 1)) && (match e.2.2.2.2.2.2 with
    | [] => decide ((mth e.2.2.2.1).2.2.2.2.2.1 = 0 ∧ (mth e.2.2.2.1).2.2.2.2.2.2 = 0)
    | [k] => decide (pnl[k]? = some e.2.2.2.1) && decide ((mth e.2.2.2.1).2.2.2.2.2.1 = 0 ∧ (mth e.2.2.2.1).2.2.2.2.2.2 = 0)
    | l => decide (l = [(mth e.2.2.2.1).2.2.2.2.2.1, (mth e.2.2.2.1).2.2.2.2.2.2, m.2.2.2.2.2.1, m.2.2.2.2.2.2]))
  | .invokespecial i => (if e.2.2.2.2.2.1 = -1 then oik.any (fun q => decide (q.1 = m.2.2.2.2.1 ∧ q.2.1 = i)) && decide (e.2.2.2.2.1 = 1) else
      clk.any (fun q => decide (q.1 = m.2.2.2.2.1 ∧ q.2.1 = i ∧ q.2.2.1 = e.2.2.2.1 ∧ q.2.2.2.1 = e.2.2.2.2.1 ∧ (q.2.2.2.2.1 : Int) = e.2.2.2.2.2.1 ∧ (q.2.2.2.2.2.1 = 2 ∨ q.2.2.2.2.2.1 = 3))) && decide (e.2.2.2.2.2.2 = [(mth e.2.2.2.1).2.2.2.2.2.1, (mth e.2.2.2.1).2.2.2.2.2.2, m.2.2.2.2.2.1, m.2.2.2.2.2.2]))
  | .new i => nwk.any (fun q => decide (q.1 = m.2.2.2.2.1 ∧ q.2.1 = i ∧ q.2.2.1 = e.2.2.2.1)) && decide (e.2.2.2.2.1 = nf e.2.2.2.1) && decide (e.2.2.2.2.2.2 = [m.2.2.2.2.2.1, m.2.2.2.2.2.2])
  | .anewarray i => nwk.any (fun q => decide (q.1 = m.2.2.2.2.1 ∧ q.2.1 = i ∧ q.2.2.1 + 12 = e.2.2.2.1 ∧ 1 ≤ q.2.2.1 ∧ q.2.2.1 ≤ 3)) && decide (e.2.2.2.2.2.2 = [m.2.2.2.2.2.1, m.2.2.2.2.2.2])
  | .newarray t => decide (t = .int ∧ e.2.2.2.1 = 10 ∨ t = .byte ∧ e.2.2.2.1 = 11 ∨ t = .long ∧ e.2.2.2.1 = 12) && decide (e.2.2.2.2.2.2 = [m.2.2.2.2.2.1, m.2.2.2.2.2.2])
  | .ldc i => (match e.2.2.2.2.1 with
    | 0 => kok.any (fun q => decide (q.1 = m.2.2.2.2.1 ∧ q.2.1 = i ∧ q.2.2.1 = e.2.2.2.2.2.1))
    | k + 1 => decide (m.2.2.2.2.1 = 5) && sok.any (fun q => decide (q.1 = i ∧ q.2 = k)))
  | .ldc_w i => kok.any (fun q => decide (q.1 = m.2.2.2.2.1 ∧ q.2.1 = i ∧ q.2.2.1 = e.2.2.2.2.2.1))
  | .ldc2_w i => lok.any (fun q => decide (q.1 = m.2.2.2.2.1 ∧ q.2.1 = i ∧ q.2.2.1 = e.2.2.2.2.2.1))
  | .ireturn => decide (m.2.2.2.1 = some .int ∧ e.2.2.2.2.2.1 = 0 ∨ m.2.2.2.1 = some .boolean ∧ e.2.2.2.2.2.1 = 1)
  | .lreturn => decide (m.2.2.2.1 = some .long)
  | .areturn => decide (m.2.2.2.1 = some (.object RX3))
  | .return_ => decide (m.2.2.2.1 = none)
  | _ => true
def ilen (i : Instr) (len : Nat) : Bool := match i with
  | .aload _ => decide (len = 2)
  | .iload _ => decide (len = 2)
  | .istore _ => decide (len = 2)
  | .astore _ => decide (len = 2)
  | .bipush _ => decide (len = 2)
  | .newarray _ => decide (len = 2)
  | .ldc _ => decide (len = 2)
  | .sipush _ => decide (len = 3)
  | .iinc _ _ => decide (len = 3)
  | .goto _ => decide (len = 3)
  | .if_icmp _ _ => decide (len = 3)
  | .ifCond _ _ => decide (len = 3)
  | .ifnonnull _ => decide (len = 3)
  | .getfield _ => decide (len = 3)
  | .putfield _ => decide (len = 3)
  | .invokestatic _ => decide (len = 3)
  | .invokevirtual _ => decide (len = 3)
  | .invokespecial _ => decide (len = 3)
  | .new _ => decide (len = 3)
  | .anewarray _ => decide (len = 3)
  | .ldc_w _ => decide (len = 3)
  | .ldc2_w _ => decide (len = 3)
  | .tableswitch _ _ _ _ => true
  | _ => decide (len = 1)
def okb (m : ME) : Nat → List EN → Bool
  | _, [] => true
  | pc, e :: l => decide (e.1 = pc) && decide (decode m.2.1 pc = .ok (e.2.1, e.2.2.1)) && oke m e && ilen e.2.1 e.2.2.1 && okb m (pc + e.2.2.1) l
