/-! exact contracts: the answer and the cells behind it are functions of the start -/
abbrev exI (v : Int32) (E : GS) : Int32 → GS → Prop := fun r S' => r = v ∧ S' = E
abbrev exV (E : GS) : GS → Prop := fun S' => S' = E
section Exact
variable {p : Program} {l : Launch} {e : Env} {R : Room} {s : State} {m : MethodId} {args : Array Value} {below : List Frame} {meth : Method} {c : Code} {H : Heap} {locs : List Loc} {cells slots : Nat} {Q : State → Prop}
variable {D : va_G} {cy : ClassId} {cel : GS → va_W} {A : Nat → Prop} {S : GS} {cc : ByteArray} {pc nL : Nat} {ls : Array Slot} {rest st : List Value} {own : String}
theorem g_calliE {v : Int32} {E : GS} {a9 : Array Value} (hA : Adr cel) (hG : GW D cy cel A s S H locs) (hr : va_Run p l e R s m args below meth c H locs cells slots 0 0 (F0 m pc ls st) rest (QI D cel (exI v E) H.size a9) (Aw cel H.size))
    (kk : ∀ (H1 : Heap) (locs1 : List Loc), GW D cy cel A s E H1 locs1 → W p l e R s m args below meth c H1 locs1 cells slots Q (F0 m (pc + 3) ls (.int v :: rest))) : W p l e R s m args below meth c H locs cells slots Q (F0 m pc ls st) :=
  g_calli hA hG hr (fun r S' H1 locs1 hp hG1 => by obtain ⟨h1, h2⟩ := hp; subst h1; subst h2; exact kk H1 locs1 hG1)
theorem g_callvE {E : GS} {a9 : Array Value} (hA : Adr cel) (hG : GW D cy cel A s S H locs) (hr : va_Run p l e R s m args below meth c H locs cells slots 0 0 (F0 m pc ls st) rest (QV D cel (exV E) H.size a9) (Aw cel H.size))
    (kk : ∀ (H1 : Heap) (locs1 : List Loc), GW D cy cel A s E H1 locs1 → W p l e R s m args below meth c H1 locs1 cells slots Q (F0 m (pc + 3) ls rest)) : W p l e R s m args below meth c H locs cells slots Q (F0 m pc ls st) :=
  g_callv hA hG hr (fun S' H1 locs1 hp hG1 => by cases hp; exact kk H1 locs1 hG1)
/-- a ternary: both ways come to J, with one int more on the stack -/
theorem g_dia {P : Prop} [Decidable P] {J pc0 : Nat} {A9 B9 : Int32} {ls9 ls0 : Array Slot} {rest9 st0 : List Value} (h : (P → W p l e R s m args below meth c H locs cells slots Q (F0 m J ls9 (.int A9 :: rest9))) → (¬ P → W p l e R s m args below meth c H locs cells slots Q (F0 m J ls9 (.int B9 :: rest9))) → W p l e R s m args below meth c H locs cells slots Q (F0 m pc0 ls0 st0))
    (k : W p l e R s m args below meth c H locs cells slots Q (F0 m J ls9 (.int (if P then A9 else B9) :: rest9))) : W p l e R s m args below meth c H locs cells slots Q (F0 m pc0 ls0 st0) :=
  h (fun c => by rw [if_pos c] at k; exact k) (fun c => by rw [if_neg c] at k; exact k)
end Exact

theorem wyX1_startAnew : cwv yX1_startAnew RX1 cX1_startAnew 3 none 2 := ⟨q100, q0, q40, q101, by decide +kernel⟩
theorem wyJ7_fill_53178 : cws yJ7_fill_53178 cJ7_fill_53178 4 none 2 := ⟨q103, q42, q104, by decide +kernel⟩
theorem wyX1_reset : cwv yX1_reset RX1 cX1_reset 3 (some .int) 2 := ⟨q149, q150, q40, q151, by decide +kernel⟩
theorem wyX1_inRange : cws yX1_inRange cX1_inRange 3 (some .boolean) 3 := ⟨q153, q40, q154, by decide +kernel⟩
theorem wyX1_lay : cwv yX1_lay RX1 cX1_lay 7 (some .int) 3 := ⟨q156, q157, q40, q158, by decide +kernel⟩
theorem wyX1_isPlaceKind : cws yX1_isPlaceKind cX1_isPlaceKind 1 (some .boolean) 1 := ⟨q160, q40, q161, by decide +kernel⟩
theorem wyX1_changeError : cwv yX1_changeError RX1 cX1_changeError 4 (some .int) 3 := ⟨q164, q1, q40, q165, by decide +kernel⟩
theorem wyX1_hasCell : cwv yX1_hasCell RX1 cX1_hasCell 3 (some .boolean) 2 := ⟨q168, q2, q40, q169, by decide +kernel⟩
theorem wyX1_cellAt : cws yX1_cellAt cX1_cellAt 2 (some .int) 2 := ⟨q171, q40, q172, by decide +kernel⟩
theorem wyX1_setCell : cwv yX1_setCell RX1 cX1_setCell 4 none 3 := ⟨q175, q3, q40, q176, by decide +kernel⟩
theorem wyX1_plant : cwv yX1_plant RX1 cX1_plant 7 (some .int) 3 := ⟨q178, q179, q40, q180, by decide +kernel⟩
theorem wyX1_addFeature : cwv yX1_addFeature RX1 cX1_addFeature 8 (some .int) 4 := ⟨q182, q183, q40, q184, by decide +kernel⟩
theorem wyX1_kind : cwv yX1_kind RX1 cX1_kind 3 (some .int) 2 := ⟨q186, q187, q40, q188, by decide +kernel⟩
theorem wyX1_height : cwv yX1_height RX1 cX1_height 3 (some .int) 2 := ⟨q190, q191, q40, q192, by decide +kernel⟩
theorem wyX1_count : cwv yX1_count RX1 cX1_count 2 (some .int) 1 := ⟨q194, q195, q40, q196, by decide +kernel⟩
theorem wyX1_countHedges : cwv yX1_countHedges RX1 cX1_countHedges 6 (some .int) 0 := ⟨q199, q4, q40, q200, by decide +kernel⟩
theorem wyX1_sees : cwv yX1_sees RX1 cX1_sees 5 (some .int) 3 := ⟨q202, q203, q40, q204, by decide +kernel⟩
theorem wyX1_viewError : cwv yX1_viewError RX1 cX1_viewError 4 (some .int) 3 := ⟨q207, q5, q40, q208, by decide +kernel⟩
theorem wyX1_hasFeature : cwv yX1_hasFeature RX1 cX1_hasFeature 2 (some .boolean) 1 := ⟨q211, q6, q40, q212, by decide +kernel⟩
theorem wyX1_placeError : cwv yX1_placeError RX1 cX1_placeError 3 (some .int) 2 := ⟨q215, q7, q40, q216, by decide +kernel⟩
theorem wyX1_isPlace : cwv yX1_isPlace RX1 cX1_isPlace 2 (some .boolean) 1 := ⟨q219, q8, q40, q220, by decide +kernel⟩
theorem wyX1_isCellNumber : cws yX1_isCellNumber cX1_isCellNumber 1 (some .boolean) 1 := ⟨q222, q40, q223, by decide +kernel⟩
theorem wyX1_isVisible : cwv yX1_isVisible RX1 cX1_isVisible 4 (some .boolean) 3 := ⟨q226, q9, q40, q227, by decide +kernel⟩
theorem wyX1_aim : cwv yX1_aim RX1 cX1_aim 5 none 2 := ⟨q230, q10, q40, q231, by decide +kernel⟩
theorem wyX0_aim : cwv yX0_aim RX0 cX0_aim 7 none 4 := ⟨q233, q234, q41, q235, by decide +kernel⟩
theorem wyX1_columnOf : cws yX1_columnOf cX1_columnOf 1 (some .int) 1 := ⟨q237, q40, q238, by decide +kernel⟩
theorem wyX1_rowOf : cws yX1_rowOf cX1_rowOf 1 (some .int) 1 := ⟨q240, q40, q241, by decide +kernel⟩
theorem wyX0_lookAhead : cwv yX0_lookAhead RX0 cX0_lookAhead 3 none 0 := ⟨q247, q11, q41, q248, by decide +kernel⟩
theorem wyX1_findNextBlocker : cwv yX1_findNextBlocker RX1 cX1_findNextBlocker 4 (some .boolean) 1 := ⟨q254, q12, q40, q255, by decide +kernel⟩
theorem wyX0_advance : cwv yX0_advance RX0 cX0_advance 1 (some .boolean) 0 := ⟨q257, q258, q41, q259, by decide +kernel⟩
theorem wyX0_hasArrived : cwv yX0_hasArrived RX0 cX0_hasArrived 1 (some .boolean) 0 := ⟨q262, q13, q41, q263, by decide +kernel⟩
theorem wyX0_crossedCell : cwv yX0_crossedCell RX0 cX0_crossedCell 1 (some .int) 0 := ⟨q265, q266, q41, q267, by decide +kernel⟩
theorem wyX0_wholeClearance : cwv yX0_wholeClearance RX0 cX0_wholeClearance 3 (some .int) 0 := ⟨q269, q270, q41, q271, by decide +kernel⟩
theorem wyJ9_floorDiv_7cf53 : cws yJ9_floorDiv_7cf53 cJ9_floorDiv_7cf53 3 (some .int) 2 := ⟨q273, q44, q274, by decide +kernel⟩
theorem wyX1_seen : cwv yX1_seen RX1 cX1_seen 4 (some .int) 2 := ⟨q276, q277, q40, q278, by decide +kernel⟩
theorem wyX1_visibleFrom : cwv yX1_visibleFrom RX1 cX1_visibleFrom 4 (some .int) 1 := ⟨q281, q14, q40, q282, by decide +kernel⟩
theorem wyX1_blockers : cwv yX1_blockers RX1 cX1_blockers 6 (some .int) 3 := ⟨q284, q285, q40, q286, by decide +kernel⟩
theorem wyX1_clipCost : cwv yX1_clipCost RX1 cX1_clipCost 5 (some .int) 3 := ⟨q288, q289, q40, q290, by decide +kernel⟩
theorem wyX1_planFromPresentHeights : cwv yX1_planFromPresentHeights RX1 cX1_planFromPresentHeights 1 none 0 := ⟨q293, q15, q40, q294, by decide +kernel⟩
theorem wyX1_lowerBlockers : cwv yX1_lowerBlockers RX1 cX1_lowerBlockers 8 (some .int) 3 := ⟨q300, q16, q40, q301, by decide +kernel⟩
theorem wyX1_clip : cwv yX1_clip RX1 cX1_clip 6 (some .int) 3 := ⟨q303, q304, q40, q305, by decide +kernel⟩
theorem wyX1_turnBareHedgesIntoLawn : cwv yX1_turnBareHedgesIntoLawn RX1 cX1_turnBareHedgesIntoLawn 2 none 0 := ⟨q308, q17, q40, q309, by decide +kernel⟩
theorem wyX1_opening : cwv yX1_opening RX1 cX1_opening 6 (some .int) 3 := ⟨q311, q312, q40, q313, by decide +kernel⟩
theorem wyX1_walkTo : cwv yX1_walkTo RX1 cX1_walkTo 5 (some .int) 2 := ⟨q315, q316, q40, q317, by decide +kernel⟩
theorem wyX1_areNeighbours : cws yX1_areNeighbours cX1_areNeighbours 4 (some .boolean) 2 := ⟨q319, q40, q320, by decide +kernel⟩
theorem wyX1_walkBack : cwv yX1_walkBack RX1 cX1_walkBack 2 (some .int) 1 := ⟨q325, q326, q40, q327, by decide +kernel⟩
theorem wyX1_appears : cwv yX1_appears RX1 cX1_appears 2 (some .int) 1 := ⟨q329, q330, q40, q331, by decide +kernel⟩
theorem wyX1_firstAppearance : cwv yX1_firstAppearance RX1 cX1_firstAppearance 4 (some .int) 2 := ⟨q334, q18, q40, q335, by decide +kernel⟩
theorem wyX1_surprises : cwv yX1_surprises RX1 cX1_surprises 4 (some .int) 1 := ⟨q337, q338, q40, q339, by decide +kernel⟩
theorem wyX1_shown : cwv yX1_shown RX1 cX1_shown 7 (some .int) 1 := ⟨q341, q342, q40, q343, by decide +kernel⟩
theorem wyX1_wish : cwv yX1_wish RX1 cX1_wish 5 (some .int) 3 := ⟨q345, q346, q40, q347, by decide +kernel⟩
theorem wyX1_clearWishes : cwv yX1_clearWishes RX1 cX1_clearWishes 2 (some .int) 0 := ⟨q349, q350, q40, q351, by decide +kernel⟩
theorem wyX1_wishCost : cwv yX1_wishCost RX1 cX1_wishCost 1 (some .int) 0 := ⟨q353, q354, q40, q355, by decide +kernel⟩
theorem wyX1_planWishes : cwv yX1_planWishes RX1 cX1_planWishes 3 (some .int) 0 := ⟨q358, q19, q40, q359, by decide +kernel⟩
theorem wyX1_wishHeight : cwv yX1_wishHeight RX1 cX1_wishHeight 4 (some .int) 2 := ⟨q361, q362, q40, q363, by decide +kernel⟩
theorem wyX1_spoiled : cwv yX1_spoiled RX1 cX1_spoiled 5 (some .int) 0 := ⟨q365, q366, q40, q367, by decide +kernel⟩
theorem wyX1_prospect : cwv yX1_prospect RX1 cX1_prospect 3 (some .double) 2 := ⟨q369, q370, q40, q371, by decide +kernel⟩
theorem wyX1_prospectOf : cwv yX1_prospectOf RX1 cX1_prospectOf 9 (some .double) 1 := ⟨q375, q20, q40, q376, by decide +kernel⟩
theorem wyX1_bestPlace : cwv yX1_bestPlace RX1 cX1_bestPlace 8 (some .int) 1 := ⟨q378, q379, q40, q380, by decide +kernel⟩
theorem wyX1_meanProspect : cwv yX1_meanProspect RX1 cX1_meanProspect 4 (some .float) 0 := ⟨q382, q383, q40, q384, by decide +kernel⟩
theorem wyX2_reset : cwv yX2_reset RX2 cX2_reset 4 (some .int) 2 := ⟨q475, q476, q43, q477, by decide +kernel⟩
theorem wyX2_in : cws yX2_in cX2_in 3 (some .boolean) 3 := ⟨q479, q43, q480, by decide +kernel⟩
theorem wyX2_lay : cwv yX2_lay RX2 cX2_lay 6 (some .int) 3 := ⟨q482, q483, q43, q484, by decide +kernel⟩
theorem wyX2_noCell : cwv yX2_noCell RX2 cX2_noCell 3 (some .boolean) 2 := ⟨q487, q21, q43, q488, by decide +kernel⟩
theorem wyX2_plant : cwv yX2_plant RX2 cX2_plant 6 (some .int) 3 := ⟨q490, q491, q43, q492, by decide +kernel⟩
theorem wyX2_addFeature : cwv yX2_addFeature RX2 cX2_addFeature 6 (some .int) 4 := ⟨q494, q495, q43, q496, by decide +kernel⟩
theorem wyX2_kind : cwv yX2_kind RX2 cX2_kind 3 (some .int) 2 := ⟨q498, q499, q43, q500, by decide +kernel⟩
theorem wyX2_height : cwv yX2_height RX2 cX2_height 3 (some .int) 2 := ⟨q502, q503, q43, q504, by decide +kernel⟩
theorem wyX2_count : cwv yX2_count RX2 cX2_count 2 (some .int) 1 := ⟨q506, q507, q43, q508, by decide +kernel⟩
theorem wyX2_manyOf : cwv yX2_manyOf RX2 cX2_manyOf 4 (some .int) 1 := ⟨q511, q22, q43, q512, by decide +kernel⟩
theorem wyX2_sees : cwv yX2_sees RX2 cX2_sees 5 (some .int) 3 := ⟨q514, q515, q43, q516, by decide +kernel⟩
theorem wyX2_begins : cwv yX2_begins RX2 cX2_begins 5 (some .int) 3 := ⟨q519, q23, q43, q520, by decide +kernel⟩
theorem wyX2_viewBarred : cwv yX2_viewBarred RX2 cX2_viewBarred 4 (some .int) 3 := ⟨q523, q24, q43, q524, by decide +kernel⟩
theorem wyX2_noFeature : cwv yX2_noFeature RX2 cX2_noFeature 2 (some .boolean) 1 := ⟨q527, q25, q43, q528, by decide +kernel⟩
theorem wyX2_isPlace : cwv yX2_isPlace RX2 cX2_isPlace 4 (some .boolean) 2 := ⟨q531, q26, q43, q532, by decide +kernel⟩
theorem wyX2_takeHeights : cwv yX2_takeHeights RX2 cX2_takeHeights 2 none 0 := ⟨q535, q27, q43, q536, by decide +kernel⟩
theorem wyX2_look : cwv yX2_look RX2 cX2_look 4 none 3 := ⟨q539, q28, q43, q540, by decide +kernel⟩
theorem wyX2_size : cws yX2_size cX2_size 1 (some .int) 1 := ⟨q542, q43, q543, by decide +kernel⟩
theorem wyX2_atLeastOne : cws yX2_atLeastOne cX2_atLeastOne 1 (some .int) 1 := ⟨q545, q43, q546, by decide +kernel⟩
theorem wyX2_blockersNow : cwv yX2_blockersNow RX2 cX2_blockersNow 3 (some .int) 0 := ⟨q549, q29, q43, q550, by decide +kernel⟩
theorem wyX2_loweredTo : cwv yX2_loweredTo RX2 cX2_loweredTo 3 (some .int) 1 := ⟨q553, q30, q43, q554, by decide +kernel⟩
theorem wyX2_clearance : cwv yX2_clearance RX2 cX2_clearance 5 (some .int) 2 := ⟨q557, q31, q43, q558, by decide +kernel⟩
theorem wyX2_narrow : cwv yX2_narrow RX2 cX2_narrow 7 none 2 := ⟨q561, q32, q43, q562, by decide +kernel⟩
theorem wyX2_seen : cwv yX2_seen RX2 cX2_seen 3 (some .int) 2 := ⟨q564, q565, q43, q566, by decide +kernel⟩
theorem wyX2_seenFrom : cwv yX2_seenFrom RX2 cX2_seenFrom 5 (some .int) 2 := ⟨q569, q33, q43, q570, by decide +kernel⟩
theorem wyX2_isSeen : cwv yX2_isSeen RX2 cX2_isSeen 4 (some .boolean) 3 := ⟨q573, q34, q43, q574, by decide +kernel⟩
theorem wyX2_blockers : cwv yX2_blockers RX2 cX2_blockers 5 (some .int) 3 := ⟨q576, q577, q43, q578, by decide +kernel⟩
theorem wyX2_clipCost : cwv yX2_clipCost RX2 cX2_clipCost 5 (some .int) 3 := ⟨q580, q581, q43, q582, by decide +kernel⟩
theorem wyX2_costNow : cwv yX2_costNow RX2 cX2_costNow 4 (some .int) 0 := ⟨q585, q35, q43, q586, by decide +kernel⟩
theorem wyX2_clip : cwv yX2_clip RX2 cX2_clip 8 (some .int) 3 := ⟨q588, q589, q43, q590, by decide +kernel⟩
theorem wyX2_opening : cwv yX2_opening RX2 cX2_opening 7 (some .int) 3 := ⟨q592, q593, q43, q594, by decide +kernel⟩
theorem wyX2_walkTo : cwv yX2_walkTo RX2 cX2_walkTo 3 (some .int) 2 := ⟨q596, q597, q43, q598, by decide +kernel⟩
theorem wyX2_walkBack : cwv yX2_walkBack RX2 cX2_walkBack 2 (some .int) 1 := ⟨q600, q601, q43, q602, by decide +kernel⟩
theorem wyX2_appears : cwv yX2_appears RX2 cX2_appears 3 (some .int) 1 := ⟨q604, q605, q43, q606, by decide +kernel⟩
theorem wyX2_appearsAt : cwv yX2_appearsAt RX2 cX2_appearsAt 3 (some .int) 1 := ⟨q609, q36, q43, q610, by decide +kernel⟩
theorem wyX2_surprises : cwv yX2_surprises RX2 cX2_surprises 4 (some .int) 1 := ⟨q612, q613, q43, q614, by decide +kernel⟩
theorem wyX2_shown : cwv yX2_shown RX2 cX2_shown 5 (some .int) 1 := ⟨q616, q617, q43, q618, by decide +kernel⟩
theorem wyX2_wish : cwv yX2_wish RX2 cX2_wish 5 (some .int) 3 := ⟨q620, q621, q43, q622, by decide +kernel⟩
theorem wyX2_clearWishes : cwv yX2_clearWishes RX2 cX2_clearWishes 2 (some .int) 0 := ⟨q624, q625, q43, q626, by decide +kernel⟩
theorem wyX2_wishCost : cwv yX2_wishCost RX2 cX2_wishCost 3 (some .int) 0 := ⟨q628, q629, q43, q630, by decide +kernel⟩
theorem wyX2_layWished : cwv yX2_layWished RX2 cX2_layWished 4 none 0 := ⟨q633, q37, q43, q634, by decide +kernel⟩
theorem wyX2_wishHeight : cwv yX2_wishHeight RX2 cX2_wishHeight 4 (some .int) 2 := ⟨q636, q637, q43, q638, by decide +kernel⟩
theorem wyX2_spoiled : cwv yX2_spoiled RX2 cX2_spoiled 3 (some .int) 0 := ⟨q640, q641, q43, q642, by decide +kernel⟩
theorem wyX2_prospect : cwv yX2_prospect RX2 cX2_prospect 3 (some .double) 2 := ⟨q644, q645, q43, q646, by decide +kernel⟩
theorem wyX2_prospectOf : cwv yX2_prospectOf RX2 cX2_prospectOf 8 (some .double) 2 := ⟨q650, q38, q43, q651, by decide +kernel⟩
theorem wyX2_bestPlace : cwv yX2_bestPlace RX2 cX2_bestPlace 9 (some .int) 1 := ⟨q653, q654, q43, q655, by decide +kernel⟩
theorem wyX2_meanProspect : cwv yX2_meanProspect RX2 cX2_meanProspect 4 (some .float) 0 := ⟨q657, q658, q43, q659, by decide +kernel⟩
def fX1_inRange (v a b : Int32) : Int32 := if v < a then 0 else (if b < v then 0 else 1)
set_option maxHeartbeats 4000000 in
set_option maxRecDepth 100000 in
theorem kX1_inRange {l : Launch} (v a b : Int32) : Cs l yX1_inRange cX1_inRange 3 (some .boolean) 0 0 [.int v, .int a, .int b] (fX1_inRange v a b) := by
  refine Cs.of (plainFor_of_name (by decide)) (Nat.le_of_ble_eq_true rfl) ?_
  intro p e s m below meth c ls C hl
  obtain ⟨hx, hb, hml, hown, hts, hr, hlk⟩ := C
  have hl : lv_has ls 3 [(0, .int v), (1, .int a), (2, .int b)] := hl
  refine lv_iload_n hx hb dX1_inRange_0 rfl (lv_at hl 0 rfl) ?_
  refine lv_iload_n hx hb dX1_inRange_1 rfl (lv_at hl 1 rfl) ?_
  refine lv_icmp_lt (tgt := 14) hx hb dX1_inRange_2 (by decide) (fun c1 => ?_) (fun c1 => ?_)
  · refine lv_iconst (v := 0) hx hb dX1_inRange_14 (by decide) ?_
    exact s_zret hx hb hr hlk rfl (by unfold fX1_inRange; rw [if_pos c1]) dX1_inRange_15
  · refine lv_iload_n hx hb dX1_inRange_5 rfl (lv_at hl 0 rfl) ?_
    refine lv_iload_n hx hb dX1_inRange_6 rfl (lv_at hl 2 rfl) ?_
    refine lv_icmp_gt (tgt := 14) hx hb dX1_inRange_7 (by decide) (fun c2 => ?_) (fun c2 => ?_)
    · refine lv_iconst (v := 0) hx hb dX1_inRange_14 (by decide) ?_
      exact s_zret hx hb hr hlk rfl (by unfold fX1_inRange; rw [if_neg c1, if_pos c2]) dX1_inRange_15
    · refine lv_iconst (v := 1) hx hb dX1_inRange_10 (by decide) ?_
      refine lv_goto (tgt := 15) hx hb dX1_inRange_11 (by decide) ?_
      exact s_zret hx hb hr hlk rfl (by unfold fX1_inRange; rw [if_neg c1, if_neg c2]) dX1_inRange_15
def fX1_cellAt (x y : Int32) : Int32 := (16 * y) + x
set_option maxHeartbeats 4000000 in
set_option maxRecDepth 100000 in
theorem kX1_cellAt {l : Launch} (x y : Int32) : Cs l yX1_cellAt cX1_cellAt 2 (some .int) 0 0 [.int x, .int y] (fX1_cellAt x y) := by
  refine Cs.of (plainFor_of_name (by decide)) (Nat.le_of_ble_eq_true rfl) ?_
  intro p e s m below meth c ls C hl
  obtain ⟨hx, hb, hml, hown, hts, hr, hlk⟩ := C
  have hl : lv_has ls 2 [(0, .int x), (1, .int y)] := hl
  refine lv_bipush (v := 16) hx hb dX1_cellAt_0 (by decide) ?_
  refine lv_iload_n hx hb dX1_cellAt_2 rfl (lv_at hl 1 rfl) ?_
  refine lv_imul hx hb dX1_cellAt_3 ?_
  refine lv_iload_n hx hb dX1_cellAt_4 rfl (lv_at hl 0 rfl) ?_
  refine lv_iadd hx hb dX1_cellAt_5 ?_
  exact s_iret hx hb hr hlk (rfl) dX1_cellAt_6
def fX1_columnOf (x : Int32) : Int32 := x - x / 16 * 16
set_option maxHeartbeats 4000000 in
set_option maxRecDepth 100000 in
theorem kX1_columnOf {l : Launch} (x : Int32) : Cs l yX1_columnOf cX1_columnOf 1 (some .int) 0 0 [.int x] (fX1_columnOf x) := by
  refine Cs.of (plainFor_of_name (by decide)) (Nat.le_of_ble_eq_true rfl) ?_
  intro p e s m below meth c ls C hl
  obtain ⟨hx, hb, hml, hown, hts, hr, hlk⟩ := C
  have hl : lv_has ls 1 [(0, .int x)] := hl
  refine lv_iload_n hx hb dX1_columnOf_0 rfl (lv_at hl 0 rfl) ?_
  refine lv_bipush (v := 16) hx hb dX1_columnOf_1 (by decide) ?_
  refine lv_irem hx hb dX1_columnOf_3 (by decide) ?_
  exact s_iret hx hb hr hlk (rfl) dX1_columnOf_4
def fX1_rowOf (x : Int32) : Int32 := x / 16
set_option maxHeartbeats 4000000 in
set_option maxRecDepth 100000 in
theorem kX1_rowOf {l : Launch} (x : Int32) : Cs l yX1_rowOf cX1_rowOf 1 (some .int) 0 0 [.int x] (fX1_rowOf x) := by
  refine Cs.of (plainFor_of_name (by decide)) (Nat.le_of_ble_eq_true rfl) ?_
  intro p e s m below meth c ls C hl
  obtain ⟨hx, hb, hml, hown, hts, hr, hlk⟩ := C
  have hl : lv_has ls 1 [(0, .int x)] := hl
  refine lv_iload_n hx hb dX1_rowOf_0 rfl (lv_at hl 0 rfl) ?_
  refine lv_bipush (v := 16) hx hb dX1_rowOf_1 (by decide) ?_
  refine lv_idiv hx hb dX1_rowOf_3 (by decide) ?_
  exact s_iret hx hb hr hlk (rfl) dX1_rowOf_4
def fX1_isCellNumber (x : Int32) : Int32 := if x < 0 then 0 else (if 192 ≤ x then 0 else 1)
set_option maxHeartbeats 4000000 in
set_option maxRecDepth 100000 in
theorem kX1_isCellNumber {l : Launch} (x : Int32) : Cs l yX1_isCellNumber cX1_isCellNumber 1 (some .boolean) 0 0 [.int x] (fX1_isCellNumber x) := by
  refine Cs.of (plainFor_of_name (by decide)) (Nat.le_of_ble_eq_true rfl) ?_
  intro p e s m below meth c ls C hl
  obtain ⟨hx, hb, hml, hown, hts, hr, hlk⟩ := C
  have hl : lv_has ls 1 [(0, .int x)] := hl
  refine lv_iload_n hx hb dX1_isCellNumber_0 rfl (lv_at hl 0 rfl) ?_
  refine lv_if_lt (tgt := 15) hx hb dX1_isCellNumber_1 (by decide) (fun c1 => ?_) (fun c1 => ?_)
  · refine lv_iconst (v := 0) hx hb dX1_isCellNumber_15 (by decide) ?_
    exact s_zret hx hb hr hlk rfl (by unfold fX1_isCellNumber; rw [if_pos c1]) dX1_isCellNumber_16
  · refine lv_iload_n hx hb dX1_isCellNumber_4 rfl (lv_at hl 0 rfl) ?_
    refine lv_sipush (v := 192) hx hb dX1_isCellNumber_5 (by decide) ?_
    refine lv_icmp_ge (tgt := 15) hx hb dX1_isCellNumber_8 (by decide) (fun c2 => ?_) (fun c2 => ?_)
    · refine lv_iconst (v := 0) hx hb dX1_isCellNumber_15 (by decide) ?_
      exact s_zret hx hb hr hlk rfl (by unfold fX1_isCellNumber; rw [if_neg c1, if_pos c2]) dX1_isCellNumber_16
    · refine lv_iconst (v := 1) hx hb dX1_isCellNumber_11 (by decide) ?_
      refine lv_goto (tgt := 16) hx hb dX1_isCellNumber_12 (by decide) ?_
      exact s_zret hx hb hr hlk rfl (by unfold fX1_isCellNumber; rw [if_neg c1, if_neg c2]) dX1_isCellNumber_16
def fX1_isPlaceKind (x : Int32) : Int32 := if x = 0 then 1 else (if x = 1 then 1 else (if x = 3 then 1 else 0))
set_option maxHeartbeats 4000000 in
set_option maxRecDepth 100000 in
theorem kX1_isPlaceKind {l : Launch} (x : Int32) : Cs l yX1_isPlaceKind cX1_isPlaceKind 1 (some .boolean) 0 0 [.int x] (fX1_isPlaceKind x) := by
  refine Cs.of (plainFor_of_name (by decide)) (Nat.le_of_ble_eq_true rfl) ?_
  intro p e s m below meth c ls C hl
  obtain ⟨hx, hb, hml, hown, hts, hr, hlk⟩ := C
  have hl : lv_has ls 1 [(0, .int x)] := hl
  refine lv_iload_n hx hb dX1_isPlaceKind_0 rfl (lv_at hl 0 rfl) ?_
  refine lv_if_eq (tgt := 14) hx hb dX1_isPlaceKind_1 (by decide) (fun c1 => ?_) (fun c1 => ?_)
  · refine lv_iconst (v := 1) hx hb dX1_isPlaceKind_14 (by decide) ?_
    refine lv_goto (tgt := 19) hx hb dX1_isPlaceKind_15 (by decide) ?_
    exact s_zret hx hb hr hlk rfl (by unfold fX1_isPlaceKind; rw [if_pos c1]) dX1_isPlaceKind_19
  · refine lv_iload_n hx hb dX1_isPlaceKind_4 rfl (lv_at hl 0 rfl) ?_
    refine lv_iconst (v := 1) hx hb dX1_isPlaceKind_5 (by decide) ?_
    refine lv_icmp_eq (tgt := 14) hx hb dX1_isPlaceKind_6 (by decide) (fun c2 => ?_) (fun c2 => ?_)
    · refine lv_iconst (v := 1) hx hb dX1_isPlaceKind_14 (by decide) ?_
      refine lv_goto (tgt := 19) hx hb dX1_isPlaceKind_15 (by decide) ?_
      exact s_zret hx hb hr hlk rfl (by unfold fX1_isPlaceKind; rw [if_neg c1, if_pos c2]) dX1_isPlaceKind_19
    · refine lv_iload_n hx hb dX1_isPlaceKind_9 rfl (lv_at hl 0 rfl) ?_
      refine lv_iconst (v := 3) hx hb dX1_isPlaceKind_10 (by decide) ?_
      refine lv_icmp_ne (tgt := 18) hx hb dX1_isPlaceKind_11 (by decide) (fun c3 => ?_) (fun c3 => ?_)
      · refine lv_iconst (v := 0) hx hb dX1_isPlaceKind_18 (by decide) ?_
        exact s_zret hx hb hr hlk rfl (by unfold fX1_isPlaceKind; rw [if_neg c1, if_neg c2, if_neg c3]) dX1_isPlaceKind_19
      · refine lv_iconst (v := 1) hx hb dX1_isPlaceKind_14 (by decide) ?_
        refine lv_goto (tgt := 19) hx hb dX1_isPlaceKind_15 (by decide) ?_
        exact s_zret hx hb hr hlk rfl (by unfold fX1_isPlaceKind; rw [if_neg c1, if_neg c2, if_pos c3]) dX1_isPlaceKind_19
def fX2_in (v a b : Int32) : Int32 := if v < a then 0 else (if b < v then 0 else 1)
set_option maxHeartbeats 4000000 in
set_option maxRecDepth 100000 in
theorem kX2_in {l : Launch} (v a b : Int32) : Cs l yX2_in cX2_in 3 (some .boolean) 0 0 [.int v, .int a, .int b] (fX2_in v a b) := by
  refine Cs.of (plainFor_of_name (by decide)) (Nat.le_of_ble_eq_true rfl) ?_
  intro p e s m below meth c ls C hl
  obtain ⟨hx, hb, hml, hown, hts, hr, hlk⟩ := C
  have hl : lv_has ls 3 [(0, .int v), (1, .int a), (2, .int b)] := hl
  refine lv_iload_n hx hb dX2_in_0 rfl (lv_at hl 0 rfl) ?_
  refine lv_iload_n hx hb dX2_in_1 rfl (lv_at hl 1 rfl) ?_
  refine lv_icmp_lt (tgt := 14) hx hb dX2_in_2 (by decide) (fun c1 => ?_) (fun c1 => ?_)
  · refine lv_iconst (v := 0) hx hb dX2_in_14 (by decide) ?_
    exact s_zret hx hb hr hlk rfl (by unfold fX2_in; rw [if_pos c1]) dX2_in_15
  · refine lv_iload_n hx hb dX2_in_5 rfl (lv_at hl 0 rfl) ?_
    refine lv_iload_n hx hb dX2_in_6 rfl (lv_at hl 2 rfl) ?_
    refine lv_icmp_gt (tgt := 14) hx hb dX2_in_7 (by decide) (fun c2 => ?_) (fun c2 => ?_)
    · refine lv_iconst (v := 0) hx hb dX2_in_14 (by decide) ?_
      exact s_zret hx hb hr hlk rfl (by unfold fX2_in; rw [if_neg c1, if_pos c2]) dX2_in_15
    · refine lv_iconst (v := 1) hx hb dX2_in_10 (by decide) ?_
      refine lv_goto (tgt := 15) hx hb dX2_in_11 (by decide) ?_
      exact s_zret hx hb hr hlk rfl (by unfold fX2_in; rw [if_neg c1, if_neg c2]) dX2_in_15
def fX2_size (v : Int32) : Int32 := if 0 ≤ v then v else -v
set_option maxHeartbeats 4000000 in
set_option maxRecDepth 100000 in
theorem kX2_size {l : Launch} (v : Int32) : Cs l yX2_size cX2_size 1 (some .int) 0 0 [.int v] (fX2_size v) := by
  refine Cs.of (plainFor_of_name (by decide)) (Nat.le_of_ble_eq_true rfl) ?_
  intro p e s m below meth c ls C hl
  obtain ⟨hx, hb, hml, hown, hts, hr, hlk⟩ := C
  have hl : lv_has ls 1 [(0, .int v)] := hl
  refine lv_iload_n hx hb dX2_size_0 rfl (lv_at hl 0 rfl) ?_
  refine g_dia (P := 0 ≤ v) (J := 10) (A9 := v) (B9 := -v) (ls9 := ls) (rest9 := []) (fun ka2 kb3 => ?_) ?_
  · refine lv_if_ge (tgt := 9) hx hb dX2_size_1 (by decide) (fun c1 => ?_) (fun c1 => ?_)
    · refine lv_iload_n hx hb dX2_size_9 rfl (lv_at hl 0 rfl) ?_
      exact ka2 c1
    · refine lv_iload_n hx hb dX2_size_4 rfl (lv_at hl 0 rfl) ?_
      refine lv_ineg hx hb dX2_size_5 ?_
      refine lv_goto (tgt := 10) hx hb dX2_size_6 (by decide) ?_
      exact kb3 c1
  exact s_iret hx hb hr hlk (rfl) dX2_size_10
def fX2_atLeastOne (v : Int32) : Int32 := if 1 ≤ v then v else 1
set_option maxHeartbeats 4000000 in
set_option maxRecDepth 100000 in
theorem kX2_atLeastOne {l : Launch} (v : Int32) : Cs l yX2_atLeastOne cX2_atLeastOne 1 (some .int) 0 0 [.int v] (fX2_atLeastOne v) := by
  refine Cs.of (plainFor_of_name (by decide)) (Nat.le_of_ble_eq_true rfl) ?_
  intro p e s m below meth c ls C hl
  obtain ⟨hx, hb, hml, hown, hts, hr, hlk⟩ := C
  have hl : lv_has ls 1 [(0, .int v)] := hl
  refine lv_iload_n hx hb dX2_atLeastOne_0 rfl (lv_at hl 0 rfl) ?_
  refine lv_iconst (v := 1) hx hb dX2_atLeastOne_1 (by decide) ?_
  refine g_dia (P := 1 ≤ v) (J := 10) (A9 := v) (B9 := 1) (ls9 := ls) (rest9 := []) (fun ka2 kb3 => ?_) ?_
  · refine lv_icmp_ge (tgt := 9) hx hb dX2_atLeastOne_2 (by decide) (fun c1 => ?_) (fun c1 => ?_)
    · refine lv_iload_n hx hb dX2_atLeastOne_9 rfl (lv_at hl 0 rfl) ?_
      exact ka2 c1
    · refine lv_iconst (v := 1) hx hb dX2_atLeastOne_5 (by decide) ?_
      refine lv_goto (tgt := 10) hx hb dX2_atLeastOne_6 (by decide) ?_
      exact kb3 c1
  exact s_iret hx hb hr hlk (rfl) dX2_atLeastOne_10
def fJ9_floorDiv_7cf53 (x y : Int32) : Int32 := if 0 ≤ x ^^^ y then x / y else (if (x / y) * y = x then x / y else (x / y) - 1)
set_option maxHeartbeats 4000000 in
set_option maxRecDepth 100000 in
theorem kJ9_floorDiv_7cf53 {l : Launch} (x y : Int32) (hy0 : ¬ y = 0) : Cs l yJ9_floorDiv_7cf53 cJ9_floorDiv_7cf53 3 (some .int) 0 0 [.int x, .int y] (fJ9_floorDiv_7cf53 x y) := by
  refine Cs.of (by decide +kernel) (Nat.le_of_ble_eq_true rfl) ?_
  intro p e s m below meth c ls C hl
  obtain ⟨hx, hb, hml, hown, hts, hr, hlk⟩ := C
  have hl : lv_has ls 3 [(0, .int x), (1, .int y)] := hl
  refine lv_iload_n hx hb dJ9_floorDiv_7cf53_0 rfl (lv_at hl 0 rfl) ?_
  refine lv_iload_n hx hb dJ9_floorDiv_7cf53_1 rfl (lv_at hl 1 rfl) ?_
  refine lv_idiv hx hb dJ9_floorDiv_7cf53_2 (hy0) ?_
  refine lv_istore_n (lv' := [(2, .int (x / y)), (0, .int x), (1, .int y)]) hx hb dJ9_floorDiv_7cf53_3 rfl hl (by decide) rfl (fun ls hl => ?_)
  refine lv_iload_n hx hb dJ9_floorDiv_7cf53_4 rfl (lv_at hl 1 rfl) ?_
  refine lv_iload_n hx hb dJ9_floorDiv_7cf53_5 rfl (lv_at hl 2 rfl) ?_
  refine lv_ixor hx hb dJ9_floorDiv_7cf53_6 ?_
  refine lv_if_ge (tgt := 21) hx hb dJ9_floorDiv_7cf53_7 (by decide) (fun c1 => ?_) (fun c1 => ?_)
  · refine lv_iload_n hx hb dJ9_floorDiv_7cf53_21 rfl (lv_at hl 0 rfl) ?_
    exact s_iret hx hb hr hlk (by unfold fJ9_floorDiv_7cf53; rw [if_pos c1]) dJ9_floorDiv_7cf53_22
  · refine lv_iload_n hx hb dJ9_floorDiv_7cf53_10 rfl (lv_at hl 0 rfl) ?_
    refine lv_iload_n hx hb dJ9_floorDiv_7cf53_11 rfl (lv_at hl 2 rfl) ?_
    refine lv_imul hx hb dJ9_floorDiv_7cf53_12 ?_
    refine lv_iload_n hx hb dJ9_floorDiv_7cf53_13 rfl (lv_at hl 1 rfl) ?_
    refine lv_icmp_eq (tgt := 21) hx hb dJ9_floorDiv_7cf53_14 (by decide) (fun c2 => ?_) (fun c2 => ?_)
    · refine lv_iload_n hx hb dJ9_floorDiv_7cf53_21 rfl (lv_at hl 0 rfl) ?_
      exact s_iret hx hb hr hlk (by unfold fJ9_floorDiv_7cf53; rw [if_neg c1, if_pos c2]) dJ9_floorDiv_7cf53_22
    · refine lv_iload_n hx hb dJ9_floorDiv_7cf53_17 rfl (lv_at hl 0 rfl) ?_
      refine lv_iconst (v := 1) hx hb dJ9_floorDiv_7cf53_18 (by decide) ?_
      refine lv_isub hx hb dJ9_floorDiv_7cf53_19 ?_
      exact s_iret hx hb hr hlk (by unfold fJ9_floorDiv_7cf53; rw [if_neg c1, if_neg c2]) dJ9_floorDiv_7cf53_20
