def qwX12_here (a_m : Nat) (v_m_thrown : Int32) (v_m_wide : Nat) (v_m_tall : Nat) (v_m_bend : Int32) (v_m_posts : Nat) (v_m_notes : Nat) (v_m_moved : Int32) (v_m_inLine : Int32) (v_m_couldBe : Int32) (v_m_isJoined : Int32) (v_m_rivalMany : Nat) (v_m_wereSupposed : Int32) (v_m_taped : Nat) (v_m_size : Nat) (v_m_at : Nat) (v_m_place : Nat) (v_m_sort : Int32) (v_m_value : Int32) (v_m_name : Int64) (v_m_toldMinutes : Int32) (v_m_toldLook : Int32) (v_m_fault : Int32) (v_m_faultPlace : Int32) (v_m_lastFault : Int32) (v_m_lastPlace : Int32) (v_m_isSent : Int32) (v_m_seen : Nat) (v_m_isSpent : Int32) (v_m_sentLast : Int32) (v_m_sentOther : Int32) (v_m_sentNone : Int32) (v_m_sentOrders : Int32) (v_m_isSupplied : Int32) (a_m_tape : Nat) (f_m_tape : Nat → Int32) (a_m_heights : Nat) (a_m_woods : Nat) (a_m_treesLow : Nat) (a_m_treesHigh : Nat) (a_m_worst : Nat) (a_m_best : Nat) (a_m_px : Nat) (a_m_py : Nat) (a_m_towerLow : Nat) (a_m_towerHigh : Nat) (a_m_state : Nat) (a_m_men : Nat) (a_m_store : Nat) (a_m_noteSort : Nat) (a_m_noteA : Nat) (a_m_noteB : Nat) (a_m_isStruck : Nat) (a_m_least : Nat) (a_m_most : Nat) (a_m_near : Nat) (a_m_rivals : Nat) (a_m_words : Nat) (a_m_wordName : Nat) (a_m_wordLong : Nat) (a_m_wordSigns : Nat) (a_m_likeMany : Nat) (a_m_likeA : Nat) (a_m_likeB : Nat) (a_m_minutes : Nat) (a_m_look : Nat) (a_m_orders : Nat) (a_m_orderPost : Nat) (a_m_orderName : Nat) (a_m_orderPlace : Nat) (a_m_orderWord : Nat) (a_m_isTwice : Nat) (a_m_actMany : Nat) (a_m_actKind : Nat) (a_m_actName : Nat) (a_m_actPlace : Nat) (a_m_actWord : Nat) (a_m_actTo : Nat) (a_m_actWait : Nat) (a_m_dim : Nat) (a_m_seenMinute : Nat) (a_m_seenTo : Nat) (a_m_seenFrom : Nat) (a_m_seenWord : Nat) (a_m_isLooked : Nat) (a_m_heardMinute : Nat) (a_m_heardFrom : Nat) (a_m_heardSent : Nat) (a_m_heardBy : Nat) (a_m_busy : Nat) (a_m_stopped : Nat) (a_m_did : Nat) (a_m_nearSure : Nat) (a_m_cost : Nat) (a_m_isDone : Nat) (a_m_ways : Nat) (a_m_came : Nat) (a_m_lacks : Nat) (a_m_firstFrom : Nat) (a_m_wasFound : Nat) (a_m_wasThere : Nat) : Int32 → (Unit) → Prop := (fun (r : Int32) (u : Unit) => ((r = (-1) ∧ (v_m_size ≤ v_m_at)) ∨ (r = f_m_tape v_m_at ∧ (¬ v_m_size ≤ v_m_at))))
def vwX12_here (K : Nat → ClassId) (a_m : Nat) (v_m_thrown : Int32) (v_m_wide : Nat) (v_m_tall : Nat) (v_m_bend : Int32) (v_m_posts : Nat) (v_m_notes : Nat) (v_m_moved : Int32) (v_m_inLine : Int32) (v_m_couldBe : Int32) (v_m_isJoined : Int32) (v_m_rivalMany : Nat) (v_m_wereSupposed : Int32) (v_m_taped : Nat) (v_m_size : Nat) (v_m_at : Nat) (v_m_place : Nat) (v_m_sort : Int32) (v_m_value : Int32) (v_m_name : Int64) (v_m_toldMinutes : Int32) (v_m_toldLook : Int32) (v_m_fault : Int32) (v_m_faultPlace : Int32) (v_m_lastFault : Int32) (v_m_lastPlace : Int32) (v_m_isSent : Int32) (v_m_seen : Nat) (v_m_isSpent : Int32) (v_m_sentLast : Int32) (v_m_sentOther : Int32) (v_m_sentNone : Int32) (v_m_sentOrders : Int32) (v_m_isSupplied : Int32) (a_m_tape : Nat) (f_m_tape : Nat → Int32) (a_m_heights : Nat) (a_m_woods : Nat) (a_m_treesLow : Nat) (a_m_treesHigh : Nat) (a_m_worst : Nat) (a_m_best : Nat) (a_m_px : Nat) (a_m_py : Nat) (a_m_towerLow : Nat) (a_m_towerHigh : Nat) (a_m_state : Nat) (a_m_men : Nat) (a_m_store : Nat) (a_m_noteSort : Nat) (a_m_noteA : Nat) (a_m_noteB : Nat) (a_m_isStruck : Nat) (a_m_least : Nat) (a_m_most : Nat) (a_m_near : Nat) (a_m_rivals : Nat) (a_m_words : Nat) (a_m_wordName : Nat) (a_m_wordLong : Nat) (a_m_wordSigns : Nat) (a_m_likeMany : Nat) (a_m_likeA : Nat) (a_m_likeB : Nat) (a_m_minutes : Nat) (a_m_look : Nat) (a_m_orders : Nat) (a_m_orderPost : Nat) (a_m_orderName : Nat) (a_m_orderPlace : Nat) (a_m_orderWord : Nat) (a_m_isTwice : Nat) (a_m_actMany : Nat) (a_m_actKind : Nat) (a_m_actName : Nat) (a_m_actPlace : Nat) (a_m_actWord : Nat) (a_m_actTo : Nat) (a_m_actWait : Nat) (a_m_dim : Nat) (a_m_seenMinute : Nat) (a_m_seenTo : Nat) (a_m_seenFrom : Nat) (a_m_seenWord : Nat) (a_m_isLooked : Nat) (a_m_heardMinute : Nat) (a_m_heardFrom : Nat) (a_m_heardSent : Nat) (a_m_heardBy : Nat) (a_m_busy : Nat) (a_m_stopped : Nat) (a_m_did : Nat) (a_m_nearSure : Nat) (a_m_cost : Nat) (a_m_isDone : Nat) (a_m_ways : Nat) (a_m_came : Nat) (a_m_lacks : Nat) (a_m_firstFrom : Nat) (a_m_wasFound : Nat) (a_m_wasThere : Nat) : (Unit) → va_W := (fun (u : Unit) => [(a_m, .inr (12, [.int v_m_thrown, .int (nI v_m_wide), .int (nI v_m_tall), .ref a_m_heights, .ref a_m_woods, .ref a_m_treesLow, .ref a_m_treesHigh, .int v_m_bend, .ref a_m_worst, .ref a_m_best, .int (nI v_m_posts), .ref a_m_px, .ref a_m_py, .ref a_m_towerLow, .ref a_m_towerHigh, .ref a_m_state, .ref a_m_men, .ref a_m_store, .int (nI v_m_notes), .ref a_m_noteSort, .ref a_m_noteA, .ref a_m_noteB, .ref a_m_isStruck, .ref a_m_least, .ref a_m_most, .int v_m_moved, .ref a_m_near, .int v_m_inLine, .int v_m_couldBe, .int v_m_isJoined, .ref a_m_rivals, .int (nI v_m_rivalMany), .int v_m_wereSupposed, .ref a_m_tape, .int (nI v_m_taped), .ref a_m_words, .ref a_m_wordName, .ref a_m_wordLong, .ref a_m_wordSigns, .ref a_m_likeMany, .ref a_m_likeA, .ref a_m_likeB, .ref a_m_minutes, .ref a_m_look, .ref a_m_orders, .ref a_m_orderPost, .ref a_m_orderName, .ref a_m_orderPlace, .ref a_m_orderWord, .ref a_m_isTwice, .ref a_m_actMany, .ref a_m_actKind, .ref a_m_actName, .ref a_m_actPlace, .ref a_m_actWord, .ref a_m_actTo, .ref a_m_actWait, .ref a_m_dim, .int (nI v_m_size), .int (nI v_m_at), .int (nI v_m_place), .int v_m_sort, .int v_m_value, .long v_m_name, .int v_m_toldMinutes, .int v_m_toldLook, .int v_m_fault, .int v_m_faultPlace, .int v_m_lastFault, .int v_m_lastPlace, .int v_m_isSent, .ref a_m_seenMinute, .ref a_m_seenTo, .ref a_m_seenFrom, .ref a_m_seenWord, .ref a_m_isLooked, .int (nI v_m_seen), .int v_m_isSpent, .ref a_m_heardMinute, .ref a_m_heardFrom, .ref a_m_heardSent, .ref a_m_heardBy, .ref a_m_busy, .ref a_m_stopped, .ref a_m_did, .ref a_m_nearSure, .int v_m_sentLast, .int v_m_sentOther, .int v_m_sentNone, .int v_m_sentOrders, .ref a_m_cost, .ref a_m_isDone, .int v_m_isSupplied, .ref a_m_ways, .ref a_m_came, .ref a_m_lacks, .ref a_m_firstFrom, .ref a_m_wasFound, .ref a_m_wasThere])), (a_m_tape, .inl (K 0, 1000, .inl f_m_tape))])
set_option maxHeartbeats 4000000 in
set_option maxRecDepth 100000 in
theorem wX12_here (l : Launch) (D : va_G) (K : Nat → ClassId) (sz : Nat) (a_m : Nat) (v_m_thrown : Int32) (v_m_wide : Nat) (v_m_tall : Nat) (v_m_bend : Int32) (v_m_posts : Nat) (v_m_notes : Nat) (v_m_moved : Int32) (v_m_inLine : Int32) (v_m_couldBe : Int32) (v_m_isJoined : Int32) (v_m_rivalMany : Nat) (v_m_wereSupposed : Int32) (v_m_taped : Nat) (v_m_size : Nat) (v_m_at : Nat) (v_m_place : Nat) (v_m_sort : Int32) (v_m_value : Int32) (v_m_name : Int64) (v_m_toldMinutes : Int32) (v_m_toldLook : Int32) (v_m_fault : Int32) (v_m_faultPlace : Int32) (v_m_lastFault : Int32) (v_m_lastPlace : Int32) (v_m_isSent : Int32) (v_m_seen : Nat) (v_m_isSpent : Int32) (v_m_sentLast : Int32) (v_m_sentOther : Int32) (v_m_sentNone : Int32) (v_m_sentOrders : Int32) (v_m_isSupplied : Int32) (a_m_tape : Nat) (f_m_tape : Nat → Int32) (a_m_heights : Nat) (a_m_woods : Nat) (a_m_treesLow : Nat) (a_m_treesHigh : Nat) (a_m_worst : Nat) (a_m_best : Nat) (a_m_px : Nat) (a_m_py : Nat) (a_m_towerLow : Nat) (a_m_towerHigh : Nat) (a_m_state : Nat) (a_m_men : Nat) (a_m_store : Nat) (a_m_noteSort : Nat) (a_m_noteA : Nat) (a_m_noteB : Nat) (a_m_isStruck : Nat) (a_m_least : Nat) (a_m_most : Nat) (a_m_near : Nat) (a_m_rivals : Nat) (a_m_words : Nat) (a_m_wordName : Nat) (a_m_wordLong : Nat) (a_m_wordSigns : Nat) (a_m_likeMany : Nat) (a_m_likeA : Nat) (a_m_likeB : Nat) (a_m_minutes : Nat) (a_m_look : Nat) (a_m_orders : Nat) (a_m_orderPost : Nat) (a_m_orderName : Nat) (a_m_orderPlace : Nat) (a_m_orderWord : Nat) (a_m_isTwice : Nat) (a_m_actMany : Nat) (a_m_actKind : Nat) (a_m_actName : Nat) (a_m_actPlace : Nat) (a_m_actWord : Nat) (a_m_actTo : Nat) (a_m_actWait : Nat) (a_m_dim : Nat) (a_m_seenMinute : Nat) (a_m_seenTo : Nat) (a_m_seenFrom : Nat) (a_m_seenWord : Nat) (a_m_isLooked : Nat) (a_m_heardMinute : Nat) (a_m_heardFrom : Nat) (a_m_heardSent : Nat) (a_m_heardBy : Nat) (a_m_busy : Nat) (a_m_stopped : Nat) (a_m_did : Nat) (a_m_nearSure : Nat) (a_m_cost : Nat) (a_m_isDone : Nat) (a_m_ways : Nat) (a_m_came : Nat) (a_m_lacks : Nat) (a_m_firstFrom : Nat) (a_m_wasFound : Nat) (a_m_wasThere : Nat) (hv_m_wide : v_m_wide ≤ 16) (gv_m_wide : 4 ≤ v_m_wide) (hv_m_tall : v_m_tall ≤ 16) (gv_m_tall : 4 ≤ v_m_tall) (hv_m_posts : v_m_posts ≤ 12) (hv_m_notes : v_m_notes ≤ 60) (hv_m_moved : v_m_moved = 0 ∨ v_m_moved = 1) (hv_m_isJoined : v_m_isJoined = 0 ∨ v_m_isJoined = 1) (hv_m_rivalMany : v_m_rivalMany ≤ 4096) (hv_m_taped : v_m_taped ≤ 1000) (hv_m_size : v_m_size ≤ 1000) (hv_m_at : v_m_at ≤ 1000) (hv_m_place : v_m_place ≤ 1000) (lv_m_sort : 0 ≤ v_m_sort) (uv_m_sort : v_m_sort ≤ 4) (lv_m_value : (-1) ≤ v_m_value) (uv_m_value : v_m_value ≤ 100000) (hv_m_toldMinutes : v_m_toldMinutes = 0 ∨ v_m_toldMinutes = 1) (hv_m_toldLook : v_m_toldLook = 0 ∨ v_m_toldLook = 1) (hv_m_isSent : v_m_isSent = 0 ∨ v_m_isSent = 1) (hv_m_seen : v_m_seen ≤ 200) (hv_m_isSpent : v_m_isSpent = 0 ∨ v_m_isSpent = 1) (hv_m_isSupplied : v_m_isSupplied = 0 ∨ v_m_isSupplied = 1) (r_m_tape : uRg f_m_tape 0 255) : uMi l yX12_here cX12_here 1 (some .int) { frames := 0, cells := 0, slots := 0, locals := 0 } [.ref a_m] D K [(a_m, .inr (12, [.int v_m_thrown, .int (nI v_m_wide), .int (nI v_m_tall), .ref a_m_heights, .ref a_m_woods, .ref a_m_treesLow, .ref a_m_treesHigh, .int v_m_bend, .ref a_m_worst, .ref a_m_best, .int (nI v_m_posts), .ref a_m_px, .ref a_m_py, .ref a_m_towerLow, .ref a_m_towerHigh, .ref a_m_state, .ref a_m_men, .ref a_m_store, .int (nI v_m_notes), .ref a_m_noteSort, .ref a_m_noteA, .ref a_m_noteB, .ref a_m_isStruck, .ref a_m_least, .ref a_m_most, .int v_m_moved, .ref a_m_near, .int v_m_inLine, .int v_m_couldBe, .int v_m_isJoined, .ref a_m_rivals, .int (nI v_m_rivalMany), .int v_m_wereSupposed, .ref a_m_tape, .int (nI v_m_taped), .ref a_m_words, .ref a_m_wordName, .ref a_m_wordLong, .ref a_m_wordSigns, .ref a_m_likeMany, .ref a_m_likeA, .ref a_m_likeB, .ref a_m_minutes, .ref a_m_look, .ref a_m_orders, .ref a_m_orderPost, .ref a_m_orderName, .ref a_m_orderPlace, .ref a_m_orderWord, .ref a_m_isTwice, .ref a_m_actMany, .ref a_m_actKind, .ref a_m_actName, .ref a_m_actPlace, .ref a_m_actWord, .ref a_m_actTo, .ref a_m_actWait, .ref a_m_dim, .int (nI v_m_size), .int (nI v_m_at), .int (nI v_m_place), .int v_m_sort, .int v_m_value, .long v_m_name, .int v_m_toldMinutes, .int v_m_toldLook, .int v_m_fault, .int v_m_faultPlace, .int v_m_lastFault, .int v_m_lastPlace, .int v_m_isSent, .ref a_m_seenMinute, .ref a_m_seenTo, .ref a_m_seenFrom, .ref a_m_seenWord, .ref a_m_isLooked, .int (nI v_m_seen), .int v_m_isSpent, .ref a_m_heardMinute, .ref a_m_heardFrom, .ref a_m_heardSent, .ref a_m_heardBy, .ref a_m_busy, .ref a_m_stopped, .ref a_m_did, .ref a_m_nearSure, .int v_m_sentLast, .int v_m_sentOther, .int v_m_sentNone, .int v_m_sentOrders, .ref a_m_cost, .ref a_m_isDone, .int v_m_isSupplied, .ref a_m_ways, .ref a_m_came, .ref a_m_lacks, .ref a_m_firstFrom, .ref a_m_wasFound, .ref a_m_wasThere])), (a_m_tape, .inl (K 0, 1000, .inl f_m_tape))] sz (qwX12_here a_m v_m_thrown v_m_wide v_m_tall v_m_bend v_m_posts v_m_notes v_m_moved v_m_inLine v_m_couldBe v_m_isJoined v_m_rivalMany v_m_wereSupposed v_m_taped v_m_size v_m_at v_m_place v_m_sort v_m_value v_m_name v_m_toldMinutes v_m_toldLook v_m_fault v_m_faultPlace v_m_lastFault v_m_lastPlace v_m_isSent v_m_seen v_m_isSpent v_m_sentLast v_m_sentOther v_m_sentNone v_m_sentOrders v_m_isSupplied a_m_tape f_m_tape a_m_heights a_m_woods a_m_treesLow a_m_treesHigh a_m_worst a_m_best a_m_px a_m_py a_m_towerLow a_m_towerHigh a_m_state a_m_men a_m_store a_m_noteSort a_m_noteA a_m_noteB a_m_isStruck a_m_least a_m_most a_m_near a_m_rivals a_m_words a_m_wordName a_m_wordLong a_m_wordSigns a_m_likeMany a_m_likeA a_m_likeB a_m_minutes a_m_look a_m_orders a_m_orderPost a_m_orderName a_m_orderPlace a_m_orderWord a_m_isTwice a_m_actMany a_m_actKind a_m_actName a_m_actPlace a_m_actWord a_m_actTo a_m_actWait a_m_dim a_m_seenMinute a_m_seenTo a_m_seenFrom a_m_seenWord a_m_isLooked a_m_heardMinute a_m_heardFrom a_m_heardSent a_m_heardBy a_m_busy a_m_stopped a_m_did a_m_nearSure a_m_cost a_m_isDone a_m_ways a_m_came a_m_lacks a_m_firstFrom a_m_wasFound a_m_wasThere) (vwX12_here K a_m v_m_thrown v_m_wide v_m_tall v_m_bend v_m_posts v_m_notes v_m_moved v_m_inLine v_m_couldBe v_m_isJoined v_m_rivalMany v_m_wereSupposed v_m_taped v_m_size v_m_at v_m_place v_m_sort v_m_value v_m_name v_m_toldMinutes v_m_toldLook v_m_fault v_m_faultPlace v_m_lastFault v_m_lastPlace v_m_isSent v_m_seen v_m_isSpent v_m_sentLast v_m_sentOther v_m_sentNone v_m_sentOrders v_m_isSupplied a_m_tape f_m_tape a_m_heights a_m_woods a_m_treesLow a_m_treesHigh a_m_worst a_m_best a_m_px a_m_py a_m_towerLow a_m_towerHigh a_m_state a_m_men a_m_store a_m_noteSort a_m_noteA a_m_noteB a_m_isStruck a_m_least a_m_most a_m_near a_m_rivals a_m_words a_m_wordName a_m_wordLong a_m_wordSigns a_m_likeMany a_m_likeA a_m_likeB a_m_minutes a_m_look a_m_orders a_m_orderPost a_m_orderName a_m_orderPlace a_m_orderWord a_m_isTwice a_m_actMany a_m_actKind a_m_actName a_m_actPlace a_m_actWord a_m_actTo a_m_actWait a_m_dim a_m_seenMinute a_m_seenTo a_m_seenFrom a_m_seenWord a_m_isLooked a_m_heardMinute a_m_heardFrom a_m_heardSent a_m_heardBy a_m_busy a_m_stopped a_m_did a_m_nearSure a_m_cost a_m_isDone a_m_ways a_m_came a_m_lacks a_m_firstFrom a_m_wasFound a_m_wasThere) := by
  refine uMet (Qc := uQi D (qwX12_here a_m v_m_thrown v_m_wide v_m_tall v_m_bend v_m_posts v_m_notes v_m_moved v_m_inLine v_m_couldBe v_m_isJoined v_m_rivalMany v_m_wereSupposed v_m_taped v_m_size v_m_at v_m_place v_m_sort v_m_value v_m_name v_m_toldMinutes v_m_toldLook v_m_fault v_m_faultPlace v_m_lastFault v_m_lastPlace v_m_isSent v_m_seen v_m_isSpent v_m_sentLast v_m_sentOther v_m_sentNone v_m_sentOrders v_m_isSupplied a_m_tape f_m_tape a_m_heights a_m_woods a_m_treesLow a_m_treesHigh a_m_worst a_m_best a_m_px a_m_py a_m_towerLow a_m_towerHigh a_m_state a_m_men a_m_store a_m_noteSort a_m_noteA a_m_noteB a_m_isStruck a_m_least a_m_most a_m_near a_m_rivals a_m_words a_m_wordName a_m_wordLong a_m_wordSigns a_m_likeMany a_m_likeA a_m_likeB a_m_minutes a_m_look a_m_orders a_m_orderPost a_m_orderName a_m_orderPlace a_m_orderWord a_m_isTwice a_m_actMany a_m_actKind a_m_actName a_m_actPlace a_m_actWord a_m_actTo a_m_actWait a_m_dim a_m_seenMinute a_m_seenTo a_m_seenFrom a_m_seenWord a_m_isLooked a_m_heardMinute a_m_heardFrom a_m_heardSent a_m_heardBy a_m_busy a_m_stopped a_m_did a_m_nearSure a_m_cost a_m_isDone a_m_ways a_m_came a_m_lacks a_m_firstFrom a_m_wasFound a_m_wasThere) (vwX12_here K a_m v_m_thrown v_m_wide v_m_tall v_m_bend v_m_posts v_m_notes v_m_moved v_m_inLine v_m_couldBe v_m_isJoined v_m_rivalMany v_m_wereSupposed v_m_taped v_m_size v_m_at v_m_place v_m_sort v_m_value v_m_name v_m_toldMinutes v_m_toldLook v_m_fault v_m_faultPlace v_m_lastFault v_m_lastPlace v_m_isSent v_m_seen v_m_isSpent v_m_sentLast v_m_sentOther v_m_sentNone v_m_sentOrders v_m_isSupplied a_m_tape f_m_tape a_m_heights a_m_woods a_m_treesLow a_m_treesHigh a_m_worst a_m_best a_m_px a_m_py a_m_towerLow a_m_towerHigh a_m_state a_m_men a_m_store a_m_noteSort a_m_noteA a_m_noteB a_m_isStruck a_m_least a_m_most a_m_near a_m_rivals a_m_words a_m_wordName a_m_wordLong a_m_wordSigns a_m_likeMany a_m_likeA a_m_likeB a_m_minutes a_m_look a_m_orders a_m_orderPost a_m_orderName a_m_orderPlace a_m_orderWord a_m_isTwice a_m_actMany a_m_actKind a_m_actName a_m_actPlace a_m_actWord a_m_actTo a_m_actWait a_m_dim a_m_seenMinute a_m_seenTo a_m_seenFrom a_m_seenWord a_m_isLooked a_m_heardMinute a_m_heardFrom a_m_heardSent a_m_heardBy a_m_busy a_m_stopped a_m_did a_m_nearSure a_m_cost a_m_isDone a_m_ways a_m_came a_m_lacks a_m_firstFrom a_m_wasFound a_m_wasThere)) (ret := (some .int)) (by decide) (Nat.le_of_ble_eq_true rfl) ?_
  intro p e s m below meth c A ls hAe hsz B hP hD hS hl
  have hx := B.1
  have hb := B.2.1
  have hl : lv_has ls 1 [(0, .ref a_m)] := hl
  refine lv_aload_n hx hb dX12_here_0 rfl (lv_at hl 0 rfl) ?_
  refine uGet (ci := 12) (C := RX12) (T := TX12) (N := 99) (v := .int (nI v_m_at)) B inlX12 hP 0 rfl rfl 59 rfl mfl_X12_381 rfl rfl dX12_here_1 ?_
  refine lv_aload_n hx hb dX12_here_4 rfl (lv_at hl 0 rfl) ?_
  refine uGet (ci := 12) (C := RX12) (T := TX12) (N := 99) (v := .int (nI v_m_size)) B inlX12 hP 0 rfl rfl 58 rfl mfl_X12_384 rfl rfl dX12_here_5 ?_
  refine lv_icmp_ge (tgt := 23) hx hb dX12_here_8 (by decide) (fun c1 => ?_) (fun c1 => ?_)
  · have k_1 : v_m_size ≤ v_m_at := (nI_leI (a := v_m_size) (b := v_m_at) (by omega) (by omega)).mp c1
    refine lv_pc (q := 23) rfl ?_
    refine lv_iconst (v := (-1)) hx hb dX12_here_23 (by decide) ?_
    exact uRi () B (Or.inl ⟨rfl, k_1⟩) (uSub hP [0, 1] rfl) (hD.sub [0, 1] rfl rfl) hS dX12_here_24
  have k_1 : ¬ v_m_size ≤ v_m_at := fun h9 => c1 ((nI_leI (a := v_m_size) (b := v_m_at) (by omega) (by omega)).mpr h9)
  refine lv_pc (q := 11) rfl ?_
  refine lv_aload_n hx hb dX12_here_11 rfl (lv_at hl 0 rfl) ?_
  refine uGet (ci := 12) (C := RX12) (T := TX12) (N := 99) (v := .ref a_m_tape) B inlX12 hP 0 rfl rfl 33 rfl mfl_X12_81 rfl rfl dX12_here_12 ?_
  refine lv_aload_n hx hb dX12_here_15 rfl (lv_at hl 0 rfl) ?_
  refine uGet (ci := 12) (C := RX12) (T := TX12) (N := 99) (v := .int (nI v_m_at)) B inlX12 hP 0 rfl rfl 59 rfl mfl_X12_381 rfl rfl dX12_here_16 ?_
  refine uIald (i := (nI v_m_at)) (j := v_m_at) B hP 1 rfl (nI_in (by omega) (by omega)) (nI_clamp (by omega)) dX12_here_19 ?_
  obtain ⟨a2, ha2, ea2⟩ := uRnat r_m_tape v_m_at (by decide)
  simp only [Int32.reduceToInt] at ha2
  refine lv_fixi (y := (nI a2)) ea2 ?_
  refine lv_goto (tgt := 24) hx hb dX12_here_20 (by decide) ?_
  refine lv_pc (q := 24) rfl ?_
  exact uRi () B (Or.inr ⟨ea2.symm, k_1⟩) (uSub hP [0, 1] rfl) (hD.sub [0, 1] rfl rfl) hS dX12_here_24
def qwX12_isSmall (x0 : Int32) : Int32 → (Unit) → Prop := (fun (r : Int32) (u : Unit) => ((r = 0 ∧ (x0 < 97)) ∨ (r = 0 ∧ (¬ x0 < 97) ∧ (122 < x0)) ∨ (r = 1 ∧ (¬ x0 < 97) ∧ (¬ 122 < x0))))
def vwX12_isSmall (K : Nat → ClassId) (x0 : Int32) : (Unit) → va_W := (fun (u : Unit) => [])
set_option maxHeartbeats 4000000 in
set_option maxRecDepth 100000 in
theorem wX12_isSmall (l : Launch) (D : va_G) (K : Nat → ClassId) (sz : Nat) (x0 : Int32) : uMi l yX12_isSmall cX12_isSmall 1 (some .boolean) { frames := 0, cells := 0, slots := 0, locals := 0 } [.int x0] D K [] sz (qwX12_isSmall x0) (vwX12_isSmall K x0) := by
  refine uMet (Qc := uQi D (qwX12_isSmall x0) (vwX12_isSmall K x0)) (ret := (some .boolean)) (by decide) (Nat.le_of_ble_eq_true rfl) ?_
  intro p e s m below meth c A ls hAe hsz B hP hD hS hl
  have hx := B.1
  have hb := B.2.1
  have hl : lv_has ls 1 [(0, .int x0)] := hl
  refine lv_iload_n hx hb dX12_isSmall_0 rfl (lv_at hl 0 rfl) ?_
  refine lv_bipush (v := 97) hx hb dX12_isSmall_1 (by decide) ?_
  refine lv_icmp_lt (tgt := 16) hx hb dX12_isSmall_3 (by decide) (fun c1 => ?_) (fun c1 => ?_)
  · refine lv_iconst (v := 0) hx hb dX12_isSmall_16 (by decide) ?_
    exact uRz () B rfl (Or.inl ⟨rfl, c1⟩) (uSub hP [] rfl) (hD.sub [] rfl rfl) hS dX12_isSmall_17
  refine lv_iload_n hx hb dX12_isSmall_6 rfl (lv_at hl 0 rfl) ?_
  refine lv_bipush (v := 122) hx hb dX12_isSmall_7 (by decide) ?_
  refine lv_pc (q := 9) rfl ?_
  refine lv_icmp_gt (tgt := 16) hx hb dX12_isSmall_9 (by decide) (fun c2 => ?_) (fun c2 => ?_)
  · refine lv_iconst (v := 0) hx hb dX12_isSmall_16 (by decide) ?_
    exact uRz () B rfl (Or.inr (Or.inl ⟨rfl, c1, c2⟩)) (uSub hP [] rfl) (hD.sub [] rfl rfl) hS dX12_isSmall_17
  refine lv_iconst (v := 1) hx hb dX12_isSmall_12 (by decide) ?_
  refine lv_goto (tgt := 17) hx hb dX12_isSmall_13 (by decide) ?_
  exact uRz () B rfl (Or.inr (Or.inr ⟨rfl, c1, c2⟩)) (uSub hP [] rfl) (hD.sub [] rfl rfl) hS dX12_isSmall_17
def qwX12_isDigit (x0 : Int32) : Int32 → (Unit) → Prop := (fun (r : Int32) (u : Unit) => ((r = 0 ∧ (x0 < 48)) ∨ (r = 0 ∧ (¬ x0 < 48) ∧ (57 < x0)) ∨ (r = 1 ∧ (¬ x0 < 48) ∧ (¬ 57 < x0))))
def vwX12_isDigit (K : Nat → ClassId) (x0 : Int32) : (Unit) → va_W := (fun (u : Unit) => [])
set_option maxHeartbeats 4000000 in
set_option maxRecDepth 100000 in
theorem wX12_isDigit (l : Launch) (D : va_G) (K : Nat → ClassId) (sz : Nat) (x0 : Int32) : uMi l yX12_isDigit cX12_isDigit 1 (some .boolean) { frames := 0, cells := 0, slots := 0, locals := 0 } [.int x0] D K [] sz (qwX12_isDigit x0) (vwX12_isDigit K x0) := by
  refine uMet (Qc := uQi D (qwX12_isDigit x0) (vwX12_isDigit K x0)) (ret := (some .boolean)) (by decide) (Nat.le_of_ble_eq_true rfl) ?_
  intro p e s m below meth c A ls hAe hsz B hP hD hS hl
  have hx := B.1
  have hb := B.2.1
  have hl : lv_has ls 1 [(0, .int x0)] := hl
  refine lv_iload_n hx hb dX12_isDigit_0 rfl (lv_at hl 0 rfl) ?_
  refine lv_bipush (v := 48) hx hb dX12_isDigit_1 (by decide) ?_
  refine lv_icmp_lt (tgt := 16) hx hb dX12_isDigit_3 (by decide) (fun c1 => ?_) (fun c1 => ?_)
  · refine lv_iconst (v := 0) hx hb dX12_isDigit_16 (by decide) ?_
    exact uRz () B rfl (Or.inl ⟨rfl, c1⟩) (uSub hP [] rfl) (hD.sub [] rfl rfl) hS dX12_isDigit_17
  refine lv_iload_n hx hb dX12_isDigit_6 rfl (lv_at hl 0 rfl) ?_
  refine lv_bipush (v := 57) hx hb dX12_isDigit_7 (by decide) ?_
  refine lv_pc (q := 9) rfl ?_
  refine lv_icmp_gt (tgt := 16) hx hb dX12_isDigit_9 (by decide) (fun c2 => ?_) (fun c2 => ?_)
  · refine lv_iconst (v := 0) hx hb dX12_isDigit_16 (by decide) ?_
    exact uRz () B rfl (Or.inr (Or.inl ⟨rfl, c1, c2⟩)) (uSub hP [] rfl) (hD.sub [] rfl rfl) hS dX12_isDigit_17
  refine lv_iconst (v := 1) hx hb dX12_isDigit_12 (by decide) ?_
  refine lv_goto (tgt := 17) hx hb dX12_isDigit_13 (by decide) ?_
  exact uRz () B rfl (Or.inr (Or.inr ⟨rfl, c1, c2⟩)) (uSub hP [] rfl) (hD.sub [] rfl rfl) hS dX12_isDigit_17
def qkJ0_coder_7d493_1  : Int32 → (Unit) → Prop := (fun (r : Int32) (u : Unit) => r = 0)
def vkJ0_coder_7d493_1 (K : Nat → ClassId)  : (Unit) → va_W := (fun (u : Unit) => [])
set_option maxHeartbeats 4000000 in
set_option maxRecDepth 100000 in
theorem kJ0_coder_7d493_1 (l : Launch) (D : va_G) (K : Nat → ClassId) (sz : Nat)  : uMi l yJ0_coder_7d493 cJ0_coder_7d493 1 (some .byte) { frames := 0, cells := 0, slots := 0, locals := 0 } [.ref (K 10)] D K [] sz (qkJ0_coder_7d493_1 ) (vkJ0_coder_7d493_1 K ) := by
  refine uMet (Qc := uQi D (qkJ0_coder_7d493_1 ) (vkJ0_coder_7d493_1 K )) (ret := (some .byte)) (by decide) (Nat.le_of_ble_eq_true rfl) ?_
  intro p e s m below meth c A ls hAe hsz B hP hD hS hl
  have hx := B.1
  have hb := B.2.1
  have hl : lv_has ls 1 [(0, .ref (K 10))] := hl
  refine uScom B hS mfl_J0_38 dJ0_coder_7d493_0 ?_
  refine lv_if_eq (tgt := 13) hx hb dJ0_coder_7d493_3 (by decide) (fun h9 => absurd h9 (by decide)) (fun _ => ?_)
  refine lv_aload_n hx hb dJ0_coder_7d493_6 rfl (lv_at hl 0 rfl) ?_
  refine uScod B hS mfl_J0_15 dJ0_coder_7d493_7 ?_
  refine lv_goto (tgt := 14) hx hb dJ0_coder_7d493_10 (by decide) ?_
  refine lv_pc (q := 14) rfl ?_
  exact uRz () B rfl rfl (uSub hP [] rfl) (hD.sub [] rfl rfl) hS dJ0_coder_7d493_14
def qkJ0_length_8abf5_2  : Int32 → (Unit) → Prop := (fun (r : Int32) (u : Unit) => r = 65)
def vkJ0_length_8abf5_2 (K : Nat → ClassId)  : (Unit) → va_W := (fun (u : Unit) => [])
set_option maxHeartbeats 4000000 in
set_option maxRecDepth 100000 in
theorem kJ0_length_8abf5_2 (l : Launch) (D : va_G) (K : Nat → ClassId) (sz : Nat)  : uMi l yJ0_length_8abf5 cJ0_length_8abf5 1 (some .int) { frames := 1, cells := 0, slots := 0, locals := 20 } [.ref (K 10)] D K [] sz (qkJ0_length_8abf5_2 ) (vkJ0_length_8abf5_2 K ) := by
  refine uMet (Qc := uQi D (qkJ0_length_8abf5_2 ) (vkJ0_length_8abf5_2 K )) (ret := (some .int)) (by decide) (Nat.le_of_ble_eq_true rfl) ?_
  intro p e s m below meth c A ls hAe hsz B hP hD hS hl
  have hx := B.1
  have hb := B.2.1
  have hl : lv_has ls 1 [(0, .ref (K 10))] := hl
  refine lv_aload_n hx hb dJ0_length_8abf5_0 rfl (lv_at hl 0 rfl) ?_
  refine uSval B hS mfl_J0_9 dJ0_length_8abf5_1 ?_
  refine uSlen B hS dJ0_length_8abf5_4 ?_
  refine lv_aload_n hx hb dJ0_length_8abf5_5 rfl (lv_at hl 0 rfl) ?_
  refine uTi (As := []) (rest := [.int 65]) (wr := []) [] B hl.1 hP hD hS [] [] rfl rfl rfl (kJ0_coder_7d493_1 l D K _ ) wd_J0_coder_7d493 mml_J0_335 rfl rfl rfl ⟨Nat.le_of_ble_eq_true rfl, Nat.le_of_ble_eq_true rfl⟩ (Nat.le_of_ble_eq_true rfl) ⟨Nat.le_of_ble_eq_true rfl, Nat.le_of_ble_eq_true rfl⟩ dJ0_length_8abf5_6 (fun r1 u H locs hw hP hD hS => ?_)
  try dsimp only at hw
  rcases hw with rfl
  have hP : va_P D vwCl [] H := hP
  have hD := uDPJ hP hD
  refine lv_pc (q := 9) rfl ?_
  refine lv_ishr hx hb dJ0_length_8abf5_9 ?_
  refine lv_fixi (y := 65) (by decide) ?_
  exact uRi () B rfl (uSub hP [] rfl) (hD.sub [] rfl rfl) hS dJ0_length_8abf5_10
def qkJ0_isLatin1_aae02_3  : Int32 → (Unit) → Prop := (fun (r : Int32) (u : Unit) => r = 1)
def vkJ0_isLatin1_aae02_3 (K : Nat → ClassId)  : (Unit) → va_W := (fun (u : Unit) => [])
set_option maxHeartbeats 4000000 in
set_option maxRecDepth 100000 in
theorem kJ0_isLatin1_aae02_3 (l : Launch) (D : va_G) (K : Nat → ClassId) (sz : Nat)  : uMi l yJ0_isLatin1_aae02 cJ0_isLatin1_aae02 1 (some .boolean) { frames := 0, cells := 0, slots := 0, locals := 0 } [.ref (K 10)] D K [] sz (qkJ0_isLatin1_aae02_3 ) (vkJ0_isLatin1_aae02_3 K ) := by
  refine uMet (Qc := uQi D (qkJ0_isLatin1_aae02_3 ) (vkJ0_isLatin1_aae02_3 K )) (ret := (some .boolean)) (by decide) (Nat.le_of_ble_eq_true rfl) ?_
  intro p e s m below meth c A ls hAe hsz B hP hD hS hl
  have hx := B.1
  have hb := B.2.1
  have hl : lv_has ls 1 [(0, .ref (K 10))] := hl
  refine uScom B hS mfl_J0_38 dJ0_isLatin1_aae02_0 ?_
  refine lv_if_eq (tgt := 17) hx hb dJ0_isLatin1_aae02_3 (by decide) (fun h9 => absurd h9 (by decide)) (fun _ => ?_)
  refine lv_aload_n hx hb dJ0_isLatin1_aae02_6 rfl (lv_at hl 0 rfl) ?_
  refine uScod B hS mfl_J0_15 dJ0_isLatin1_aae02_7 ?_
  refine lv_if_ne (tgt := 17) hx hb dJ0_isLatin1_aae02_10 (by decide) (fun h9 => absurd (by decide) h9) (fun _ => ?_)
  refine lv_pc (q := 13) rfl ?_
  refine lv_iconst (v := 1) hx hb dJ0_isLatin1_aae02_13 (by decide) ?_
  refine lv_goto (tgt := 18) hx hb dJ0_isLatin1_aae02_14 (by decide) ?_
  exact uRz () B rfl rfl (uSub hP [] rfl) (hD.sub [] rfl rfl) hS dJ0_isLatin1_aae02_18
def qkJ3_checkIndex_8e157_4 (pn0 : Nat) : Int32 → (Unit) → Prop := (fun (r : Int32) (u : Unit) => r = nI pn0 ∧ (¬ (nI pn0) < 0 ∧ ¬ pn0 < 0 ∧ (nI pn0) < 65 ∧ pn0 < 65))
def vkJ3_checkIndex_8e157_4 (K : Nat → ClassId) (pn0 : Nat) : (Unit) → va_W := (fun (u : Unit) => [])
set_option maxHeartbeats 4000000 in
set_option maxRecDepth 100000 in
theorem kJ3_checkIndex_8e157_4 (l : Launch) (D : va_G) (K : Nat → ClassId) (sz : Nat) (pn0 : Nat) (hpn0 : pn0 < 65) : uMi l yJ3_checkIndex_8e157 cJ3_checkIndex_8e157 3 (some .int) { frames := 0, cells := 0, slots := 0, locals := 0 } [.int (nI pn0), .int 65, .null] D K [] sz (qkJ3_checkIndex_8e157_4 pn0) (vkJ3_checkIndex_8e157_4 K pn0) := by
  refine uMet (Qc := uQi D (qkJ3_checkIndex_8e157_4 pn0) (vkJ3_checkIndex_8e157_4 K pn0)) (ret := (some .int)) (by decide) (Nat.le_of_ble_eq_true rfl) ?_
  intro p e s m below meth c A ls hAe hsz B hP hD hS hl
  have hx := B.1
  have hb := B.2.1
  have hl : lv_has ls 3 [(0, .int (nI pn0)), (1, .int 65), (2, .null)] := hl
  refine lv_iload_n hx hb dJ3_checkIndex_8e157_0 rfl (lv_at hl 0 rfl) ?_
  refine lv_if_lt (tgt := 9) hx hb dJ3_checkIndex_8e157_1 (by decide) (fun c1 => ?_) (fun c1 => ?_)
  · have k_1 : pn0 < 0 := (nI_ltI (a := pn0) (b := 0) (by omega) (by omega)).mp c1
    exfalso; omega
  have k_1 : ¬ pn0 < 0 := fun h9 => c1 ((nI_ltI (a := pn0) (b := 0) (by omega) (by omega)).mpr h9)
  refine lv_iload_n hx hb dJ3_checkIndex_8e157_4 rfl (lv_at hl 0 rfl) ?_
  refine lv_iload_n hx hb dJ3_checkIndex_8e157_5 rfl (lv_at hl 1 rfl) ?_
  refine lv_icmp_lt (tgt := 16) hx hb dJ3_checkIndex_8e157_6 (by decide) (fun c2 => ?_) (fun c2 => ?_)
  · have k_2 : pn0 < 65 := (nI_ltI (a := pn0) (b := 65) (by omega) (by omega)).mp c2
    refine lv_pc (q := 16) rfl ?_
    refine lv_iload_n hx hb dJ3_checkIndex_8e157_16 rfl (lv_at hl 0 rfl) ?_
    exact uRi () B ⟨rfl, ⟨c1, k_1, c2, k_2⟩⟩ (uSub hP [] rfl) (hD.sub [] rfl rfl) hS dJ3_checkIndex_8e157_17
  have k_2 : ¬ pn0 < 65 := fun h9 => c2 ((nI_ltI (a := pn0) (b := 65) (by omega) (by omega)).mpr h9)
  exfalso; omega
def qkJ3_checkIndex_8e157_5 (pn0 : Nat) (pg1 : Nat) : Int32 → (Unit) → Prop := (fun (r : Int32) (u : Unit) => r = nI pn0 ∧ (¬ (nI pn0) < 0 ∧ ¬ pn0 < 0 ∧ (nI pn0) < 65 ∧ pn0 < 65))
def vkJ3_checkIndex_8e157_5 (K : Nat → ClassId) (pn0 : Nat) (pg1 : Nat) : (Unit) → va_W := (fun (u : Unit) => [])
set_option maxHeartbeats 4000000 in
set_option maxRecDepth 100000 in
theorem kJ3_checkIndex_8e157_5 (l : Launch) (D : va_G) (K : Nat → ClassId) (sz : Nat) (pn0 : Nat) (pg1 : Nat) (hpn0 : pn0 < 65) : uMi l yJ3_checkIndex_8e157 cJ3_checkIndex_8e157 3 (some .int) { frames := 0, cells := 0, slots := 0, locals := 0 } [.int (nI pn0), .int 65, .ref pg1] D K [] sz (qkJ3_checkIndex_8e157_5 pn0 pg1) (vkJ3_checkIndex_8e157_5 K pn0 pg1) := by
  refine uMet (Qc := uQi D (qkJ3_checkIndex_8e157_5 pn0 pg1) (vkJ3_checkIndex_8e157_5 K pn0 pg1)) (ret := (some .int)) (by decide) (Nat.le_of_ble_eq_true rfl) ?_
  intro p e s m below meth c A ls hAe hsz B hP hD hS hl
  have hx := B.1
  have hb := B.2.1
  have hl : lv_has ls 3 [(0, .int (nI pn0)), (1, .int 65), (2, .ref pg1)] := hl
  refine lv_iload_n hx hb dJ3_checkIndex_8e157_0 rfl (lv_at hl 0 rfl) ?_
  refine lv_if_lt (tgt := 9) hx hb dJ3_checkIndex_8e157_1 (by decide) (fun c1 => ?_) (fun c1 => ?_)
  · have k_1 : pn0 < 0 := (nI_ltI (a := pn0) (b := 0) (by omega) (by omega)).mp c1
    exfalso; omega
  have k_1 : ¬ pn0 < 0 := fun h9 => c1 ((nI_ltI (a := pn0) (b := 0) (by omega) (by omega)).mpr h9)
  refine lv_iload_n hx hb dJ3_checkIndex_8e157_4 rfl (lv_at hl 0 rfl) ?_
  refine lv_iload_n hx hb dJ3_checkIndex_8e157_5 rfl (lv_at hl 1 rfl) ?_
  refine lv_icmp_lt (tgt := 16) hx hb dJ3_checkIndex_8e157_6 (by decide) (fun c2 => ?_) (fun c2 => ?_)
  · have k_2 : pn0 < 65 := (nI_ltI (a := pn0) (b := 65) (by omega) (by omega)).mp c2
    refine lv_pc (q := 16) rfl ?_
    refine lv_iload_n hx hb dJ3_checkIndex_8e157_16 rfl (lv_at hl 0 rfl) ?_
    exact uRi () B ⟨rfl, ⟨c1, k_1, c2, k_2⟩⟩ (uSub hP [] rfl) (hD.sub [] rfl rfl) hS dJ3_checkIndex_8e157_17
  have k_2 : ¬ pn0 < 65 := fun h9 => c2 ((nI_ltI (a := pn0) (b := 65) (by omega) (by omega)).mpr h9)
  exfalso; omega
def qkJ0_checkIndex_df160_6 (pn0 : Nat) : Unit → Prop := (fun (u : Unit) => ((¬ (nI pn0) < 0 ∧ ¬ pn0 < 0 ∧ (nI pn0) < 65 ∧ pn0 < 65) ∨ (¬ (nI pn0) < 0 ∧ ¬ pn0 < 0 ∧ (nI pn0) < 65 ∧ pn0 < 65)))
def vkJ0_checkIndex_df160_6 (K : Nat → ClassId) (pn0 : Nat) : (Unit) → va_W := (fun (u : Unit) => [])
set_option maxHeartbeats 4000000 in
set_option maxRecDepth 100000 in
theorem kJ0_checkIndex_df160_6 (l : Launch) (D : va_G) (K : Nat → ClassId) (sz : Nat) (pn0 : Nat) (hpn0 : pn0 < 65) : uMv l yJ0_checkIndex_df160 cJ0_checkIndex_df160 2 { frames := 1, cells := 0, slots := 0, locals := 22 } [.int (nI pn0), .int 65] D K [] sz (qkJ0_checkIndex_df160_6 pn0) (vkJ0_checkIndex_df160_6 K pn0) := by
  refine uMet (Qc := uQv D (qkJ0_checkIndex_df160_6 pn0) (vkJ0_checkIndex_df160_6 K pn0)) (ret := none) (by decide) (Nat.le_of_ble_eq_true rfl) ?_
  intro p e s m below meth c A ls hAe hsz B hP hD hS hl
  have hx := B.1
  have hb := B.2.1
  have hl : lv_has ls 2 [(0, .int (nI pn0)), (1, .int 65)] := hl
  refine lv_iload_n hx hb dJ0_checkIndex_df160_0 rfl (lv_at hl 0 rfl) ?_
  refine lv_iload_n hx hb dJ0_checkIndex_df160_1 rfl (lv_at hl 1 rfl) ?_
  refine uSfmt B hS mfl_J0_1053 dJ0_checkIndex_df160_2 ?_ (fun t1 => ?_)
  · refine uSiJ (As := [.int (nI pn0), .int 65, .null]) (rest := []) (wr := []) (kJ3_checkIndex_8e157_4 l D K _ pn0 (by omega)) B hl.1 hP hD hS [] [] rfl rfl rfl wd_J3_checkIndex_8e157 mml_J0_1059 rfl rfl ⟨Nat.le_of_ble_eq_true rfl, Nat.le_of_ble_eq_true rfl⟩ (Nat.le_of_ble_eq_true rfl) ⟨Nat.le_of_ble_eq_true rfl, Nat.le_of_ble_eq_true rfl⟩ dJ0_checkIndex_df160_5 (fun r2 u H locs hw hP hD hS => ?_)
    try dsimp only at hw
    rcases hw with ⟨rfl, ⟨w3, w4, w5, w6⟩⟩
    have hP : va_P D vwCl [] H := hP
    have hD := uDPJ hP hD
    refine lv_pop hx hb dJ0_checkIndex_df160_8 rfl ?_
    refine lv_pc (q := 9) rfl ?_
    exact uRv () B (Or.inl ⟨w3, w4, w5, w6⟩) (uSub hP [] rfl) (hD.sub [] rfl rfl) hS dJ0_checkIndex_df160_9
  refine uSiJ (As := [.int (nI pn0), .int 65, .ref t1]) (rest := []) (wr := []) (kJ3_checkIndex_8e157_5 l D K _ pn0 t1 (by omega)) B hl.1 hP hD hS [] [] rfl rfl rfl wd_J3_checkIndex_8e157 mml_J0_1059 rfl rfl ⟨Nat.le_of_ble_eq_true rfl, Nat.le_of_ble_eq_true rfl⟩ (Nat.le_of_ble_eq_true rfl) ⟨Nat.le_of_ble_eq_true rfl, Nat.le_of_ble_eq_true rfl⟩ dJ0_checkIndex_df160_5 (fun r7 u H locs hw hP hD hS => ?_)
  try dsimp only at hw
  rcases hw with ⟨rfl, ⟨w8, w9, w10, w11⟩⟩
  have hP : va_P D vwCl [] H := hP
  have hD := uDPJ hP hD
  refine lv_pop hx hb dJ0_checkIndex_df160_8 rfl ?_
  refine lv_pc (q := 9) rfl ?_
  exact uRv () B (Or.inr ⟨w8, w9, w10, w11⟩) (uSub hP [] rfl) (hD.sub [] rfl rfl) hS dJ0_checkIndex_df160_9
def qkJ1_charAt_3b067_7 (pn0 : Nat) : Int32 → (Unit) → Prop := (fun (r : Int32) (u : Unit) => r = (((uByt.getD pn0 0) &&& 255).toUInt32 % 65536).toInt32 ∧ (((¬ (nI pn0) < 0 ∧ ¬ pn0 < 0 ∧ (nI pn0) < 65 ∧ pn0 < 65) ∨ (¬ (nI pn0) < 0 ∧ ¬ pn0 < 0 ∧ (nI pn0) < 65 ∧ pn0 < 65))))
def vkJ1_charAt_3b067_7 (K : Nat → ClassId) (pn0 : Nat) : (Unit) → va_W := (fun (u : Unit) => [])
set_option maxHeartbeats 4000000 in
set_option maxRecDepth 100000 in
theorem kJ1_charAt_3b067_7 (l : Launch) (D : va_G) (K : Nat → ClassId) (sz : Nat) (pn0 : Nat) (hpn0 : pn0 < 65) : uMi l yJ1_charAt_3b067 cJ1_charAt_3b067 2 (some .char) { frames := 2, cells := 0, slots := 0, locals := 43 } [.ref (K 11), .int (nI pn0)] D K [] sz (qkJ1_charAt_3b067_7 pn0) (vkJ1_charAt_3b067_7 K pn0) := by
  refine uMet (Qc := uQi D (qkJ1_charAt_3b067_7 pn0) (vkJ1_charAt_3b067_7 K pn0)) (ret := (some .char)) (by decide) (Nat.le_of_ble_eq_true rfl) ?_
  intro p e s m below meth c A ls hAe hsz B hP hD hS hl
  have hx := B.1
  have hb := B.2.1
  have hl : lv_has ls 2 [(0, .ref (K 11)), (1, .int (nI pn0))] := hl
  refine lv_iload_n hx hb dJ1_charAt_3b067_0 rfl (lv_at hl 1 rfl) ?_
  refine lv_aload_n hx hb dJ1_charAt_3b067_1 rfl (lv_at hl 0 rfl) ?_
  refine uSlen B hS dJ1_charAt_3b067_2 ?_
  refine uSvJ (As := [.int (nI pn0), .int 65]) (rest := []) (wr := []) (kJ0_checkIndex_df160_6 l D K _ pn0 (by omega)) B hl.1 hP hD hS [] [] rfl rfl rfl wd_J0_checkIndex_df160 mml_J1_9 rfl rfl ⟨Nat.le_of_ble_eq_true rfl, Nat.le_of_ble_eq_true rfl⟩ (Nat.le_of_ble_eq_true rfl) ⟨Nat.le_of_ble_eq_true rfl, Nat.le_of_ble_eq_true rfl⟩ dJ1_charAt_3b067_3 (fun u H locs hw hP hD hS => ?_)
  try dsimp only at hw
  have w2 := hw
  have hP : va_P D vwCl [] H := hP
  have hD := uDPJ hP hD
  refine lv_aload_n hx hb dJ1_charAt_3b067_6 rfl (lv_at hl 0 rfl) ?_
  refine lv_pc (q := 7) rfl ?_
  refine lv_iload_n hx hb dJ1_charAt_3b067_7 rfl (lv_at hl 1 rfl) ?_
  refine uSbyt (i := (nI pn0)) (j := pn0) B hS (nI_in (by omega) (by omega)) (nI_clamp (by omega)) dJ1_charAt_3b067_8 ?_
  refine lv_sipush (v := 255) hx hb dJ1_charAt_3b067_9 (by decide) ?_
  refine lv_iand hx hb dJ1_charAt_3b067_12 ?_
  refine lv_i2c (v := ((((uByt.getD pn0 0) &&& 255).toUInt32 % 65536).toInt32)) hx hb dJ1_charAt_3b067_13 rfl ?_
  exact uRz () B (pk_nc _) ⟨rfl, w2⟩ (uSub hP [] rfl) (hD.sub [] rfl rfl) hS dJ1_charAt_3b067_14
def qkJ0_charAt_5068e_8 (pn0 : Nat) : Int32 → (Unit) → Prop := (fun (r : Int32) (u : Unit) => r = (((uByt.getD pn0 0) &&& 255).toUInt32 % 65536).toInt32 ∧ (((¬ (nI pn0) < 0 ∧ ¬ pn0 < 0 ∧ (nI pn0) < 65 ∧ pn0 < 65) ∨ (¬ (nI pn0) < 0 ∧ ¬ pn0 < 0 ∧ (nI pn0) < 65 ∧ pn0 < 65))))
def vkJ0_charAt_5068e_8 (K : Nat → ClassId) (pn0 : Nat) : (Unit) → va_W := (fun (u : Unit) => [])
set_option maxHeartbeats 4000000 in
set_option maxRecDepth 100000 in
theorem kJ0_charAt_5068e_8 (l : Launch) (D : va_G) (K : Nat → ClassId) (sz : Nat) (pn0 : Nat) (hpn0 : pn0 < 65) : uMi l yJ0_charAt_5068e cJ0_charAt_5068e 2 (some .char) { frames := 3, cells := 0, slots := 0, locals := 64 } [.ref (K 10), .int (nI pn0)] D K [] sz (qkJ0_charAt_5068e_8 pn0) (vkJ0_charAt_5068e_8 K pn0) := by
  refine uMet (Qc := uQi D (qkJ0_charAt_5068e_8 pn0) (vkJ0_charAt_5068e_8 K pn0)) (ret := (some .char)) (by decide) (Nat.le_of_ble_eq_true rfl) ?_
  intro p e s m below meth c A ls hAe hsz B hP hD hS hl
  have hx := B.1
  have hb := B.2.1
  have hl : lv_has ls 2 [(0, .ref (K 10)), (1, .int (nI pn0))] := hl
  refine lv_aload_n hx hb dJ0_charAt_5068e_0 rfl (lv_at hl 0 rfl) ?_
  refine uTi (As := []) (rest := []) (wr := []) [] B hl.1 hP hD hS [] [] rfl rfl rfl (kJ0_isLatin1_aae02_3 l D K _ ) wd_J0_isLatin1_aae02 mml_J0_492 rfl rfl rfl ⟨Nat.le_of_ble_eq_true rfl, Nat.le_of_ble_eq_true rfl⟩ (Nat.le_of_ble_eq_true rfl) ⟨Nat.le_of_ble_eq_true rfl, Nat.le_of_ble_eq_true rfl⟩ dJ0_charAt_5068e_1 (fun r1 u H locs hw hP hD hS => ?_)
  try dsimp only at hw
  rcases hw with rfl
  have hP : va_P D vwCl [] H := hP
  have hD := uDPJ hP hD
  refine lv_if_eq (tgt := 16) hx hb dJ0_charAt_5068e_4 (by decide) (fun h9 => absurd h9 (by decide)) (fun _ => ?_)
  refine lv_aload_n hx hb dJ0_charAt_5068e_7 rfl (lv_at hl 0 rfl) ?_
  refine uSval B hS mfl_J0_9 dJ0_charAt_5068e_8 ?_
  refine lv_pc (q := 11) rfl ?_
  refine lv_iload_n hx hb dJ0_charAt_5068e_11 rfl (lv_at hl 1 rfl) ?_
  refine uSiJ (As := [.ref (K 11), .int (nI pn0)]) (rest := []) (wr := []) (kJ1_charAt_3b067_7 l D K _ pn0 (by omega)) B hl.1 hP hD hS [] [] rfl rfl rfl wd_J1_charAt_3b067 mml_J0_495 rfl rfl ⟨Nat.le_of_ble_eq_true rfl, Nat.le_of_ble_eq_true rfl⟩ (Nat.le_of_ble_eq_true rfl) ⟨Nat.le_of_ble_eq_true rfl, Nat.le_of_ble_eq_true rfl⟩ dJ0_charAt_5068e_12 (fun r2 u H locs hw hP hD hS => ?_)
  try dsimp only at hw
  rcases hw with ⟨rfl, w3⟩
  have hP : va_P D vwCl [] H := hP
  have hD := uDPJ hP hD
  exact uRz () B (pk_nc _) ⟨rfl, w3⟩ (uSub hP [] rfl) (hD.sub [] rfl rfl) hS dJ0_charAt_5068e_15
