/-! the small machine, its tables: fields, methods, constants by a class's number and a pool's place -/
abbrev TL : Type := List (Option Value)
abbrev TM : Type := (Nat → Nat → Int32) × (Nat → Nat → Int64) × (Nat → Nat → Value)
abbrev TE : Type := (Nat × List (Nat × Nat)) ⊕ (Nat × Nat) ⊕ List Nat
abbrev TH : Type := Nat × ByteArray × Option FieldType
abbrev TC : Type := Nat × TH × Nat × Nat × MethodName
def ti_T : List Cond := lw_tbl.filter goodWord
def ti_isN : Cond → Bool
  | .fieldLinkNest _ _ _ _ _ _ => true
  | .methodLinkNest _ _ _ _ => true
  | _ => false
def ti_N : List Cond := lw_tbl.filter ti_isN
theorem ti_in {w : Cond} (i : Nat) (h : lw_tbl[i]? = some w) (g : goodWord w = true) : w ∈ ti_T := List.mem_filter.mpr ⟨List.mem_of_getElem? h, g⟩
theorem ti_inN {w : Cond} (i : Nat) (h : lw_tbl[i]? = some w) (g : ti_isN w = true) : w ∈ ti_N := List.mem_filter.mpr ⟨List.mem_of_getElem? h, g⟩
theorem ti_TG : GoodIn lw_tbl ti_T := fun _ h => ⟨(List.mem_filter.mp h).1, good_of_word (List.mem_filter.mp h).2⟩
theorem ti_Tgood {w : Cond} (h : w ∈ ti_T) : (w.onTables && w.keeps) = true ∨ ∃ ty, w = .arrayClass ty := good_of_word (List.mem_filter.mp h).2
theorem ti_Nnest {w : Cond} (h : w ∈ ti_N) : (∃ a i b n d g, w = .fieldLinkNest a i b n d g) ∨ ∃ a i x g, w = .methodLinkNest a i x g := by
  have h2 := (List.mem_filter.mp h).2
  cases w <;> first | exact Or.inl ⟨_, _, _, _, _, _, rfl⟩ | exact Or.inr ⟨_, _, _, _, rfl⟩ | (simp [ti_isN] at h2)
def ti_owL : List String := [RX0, RX1, RX2, RX3, RX4, RX5, RX6, RX7, RX8, RX9, RX10, RX11, RX12, RJ6]
def ti_ow (o : Nat) : String := ti_owL.getD o ""
def ti_FOK (o i ci k kd : Nat) : Prop := ∃ (C : String) (T : u_T) (N : Nat), vwCl[ci]? = some (C, T, N) ∧ k < N ∧ (T k).1 = C ∧ (Cond.fieldLink (ti_ow o) i C (T k).2.1 (T k).2.2.1 ∈ ti_T ∨ ∃ host, Cond.fieldLinkNest (ti_ow o) i C (T k).2.1 (T k).2.2.1 host ∈ ti_N) ∧ (kd = 0 → (T k).2.2.2 = false ∧ parseFieldDescriptor (T k).2.2.1 = some .int) ∧ (kd = 1 → (T k).2.2.2 = false ∧ parseFieldDescriptor (T k).2.2.1 = some .boolean) ∧ (kd = 3 → (T k).2.2.2 = false ∧ ∃ ty, parseFieldDescriptor (T k).2.2.1 = some ty ∧ ∀ a, narrow ty (.ref a) = .ref a ∧ fits ty (.ref a) = true)
def ti_KOK (q : vw_C) : Prop := (∀ w ∈ u_ws q.1 q.2.1 q.2.2, w ∈ ti_T) ∧ (∃ ty0 : Nat → FieldType, ∀ k, k < q.2.2 → parseFieldDescriptor (q.2.1 k).2.2.1 = some (ty0 k)) ∧ ∀ a, a < q.2.2 → ∀ b, b < q.2.2 → a ≠ b → (q.2.1 a).2.1 ≠ (q.2.1 b).2.1
/-- a method that is called: kind 0 by its receiver, 1 static, 2 static of a nest mate -/
def ti_MOK (o i : Nat) (tc : TC) : Prop := match tc with
  | (kd, (o2, cc, rt), mL, n, y) => Cond.code y cc mL rt ∈ ti_T ∧ Cond.initialized y.cls ∈ ti_T ∧ plainName y.cls = true ∧ y.cls = ti_ow o2 ∧ (y.cls ≠ "java/lang/invoke/MethodHandle" ∧ y.cls ≠ "java/lang/invoke/VarHandle") ∧ mL ≤ 21 ∧
    ((kd = 0 ∧ Cond.methodLink (ti_ow o) i y ∈ ti_T ∧ Cond.instanceMethod y ∈ ti_T ∧ Cond.selects y.cls y y ∈ ti_T ∧ (∃ T N, vwCl[o2]? = some (y.cls, T, N)) ∧ ∃ n1, n = n1 + 1 ∧ (parseMethodDescriptor y.desc).map (fun d => d.parameters.length) = some n1) ∨
     (kd = 1 ∧ Cond.methodLink (ti_ow o) i y ∈ ti_T ∧ Cond.static y ∈ ti_T ∧ (parseMethodDescriptor y.desc).map (fun d => d.parameters.length) = some n) ∨
     (kd = 2 ∧ (∃ host, Cond.methodLinkNest (ti_ow o) i y host ∈ ti_N) ∧ Cond.static y ∈ ti_T ∧ (parseMethodDescriptor y.desc).map (fun d => d.parameters.length) = some n))
def ti_BOK (o i b : Nat) : Prop := (b = 0 → Cond.methodLink (ti_ow o) i Lib.Math.max.name ∈ ti_T) ∧ (b = 1 → Cond.methodLink (ti_ow o) i Lib.Math.min.name ∈ ti_T) ∧ (b = 2 → Cond.methodLink (ti_ow o) i Lib.Math.abs.name ∈ ti_T) ∧ (b = 3 → Cond.methodLink (ti_ow o) i arraycopyName ∈ ti_T) ∧ (b = 4 → o = 5 ∧ Cond.methodLink (ti_ow o) i yJ0_indexOf_0f7a4 ∈ ti_T)
def ti_COK (o i : Nat) (v : Value) : Prop := (∀ x, v = .int x → Cond.constant (ti_ow o) i x ∈ ti_T) ∧ (∀ x, v = .long x → Cond.constantLong (ti_ow o) i x ∈ ti_T) ∧ (∀ q, v = .ref q → o = 5 ∧ i = 84 ∧ q = 900)
def ti_fr_0 : List (Nat × Nat × Nat × Nat) := [(9, 0, 1, 2), (15, 0, 2, 2), (18, 0, 0, 2), (22, 0, 3, 0), (59, 7, 1, 0), (69, 7, 0, 2)]
def ti_fr_1 : List (Nat × Nat × Nat × Nat) := [(11, 1, 2, 2), (15, 1, 3, 2), (18, 1, 5, 2), (21, 1, 6, 2), (24, 1, 7, 2), (27, 1, 13, 2), (30, 1, 0, 2), (34, 1, 1, 2), (54, 6, 4, 0), (60, 6, 2, 2), (72, 6, 3, 0), (75, 1, 4, 0), (81, 1, 10, 0), (84, 1, 9, 0), (87, 1, 12, 0), (90, 1, 11, 0), (119, 1, 8, 0)]
def ti_fr_2 : List (Nat × Nat × Nat × Nat) := [(13, 2, 0, 2), (17, 2, 1, 2), (21, 2, 2, 2), (25, 2, 5, 0), (29, 2, 3, 0), (36, 2, 4, 0)]
def ti_fr_3 : List (Nat × Nat × Nat × Nat) := [(12, 3, 4, 2), (18, 3, 5, 2), (22, 3, 6, 2), (25, 3, 7, 2), (28, 3, 0, 2), (32, 3, 1, 2), (36, 3, 2, 2), (40, 3, 3, 2), (48, 7, 1, 0), (52, 10, 2, 0), (61, 0, 3, 0), (66, 7, 0, 2), (75, 7, 7, 0), (82, 7, 3, 0), (103, 7, 4, 0), (121, 7, 6, 1), (125, 7, 2, 0), (128, 6, 3, 0), (136, 7, 5, 0), (143, 6, 4, 0), (151, 3, 8, 0)]
def ti_fr_4 : List (Nat × Nat × Nat × Nat) := [(9, 4, 0, 2), (15, 4, 1, 0)]
def ti_fr_5 : List (Nat × Nat × Nat × Nat) := [(11, 5, 0, 2), (15, 5, 1, 2), (18, 5, 2, 2), (21, 5, 3, 0)]
def ti_fr_6 : List (Nat × Nat × Nat × Nat) := [(9, 6, 0, 2), (15, 6, 1, 2), (18, 6, 2, 2), (21, 6, 4, 0), (25, 6, 3, 0)]
def ti_fr_7 : List (Nat × Nat × Nat × Nat) := [(9, 7, 0, 2), (15, 7, 2, 0), (25, 7, 1, 0), (28, 7, 3, 0), (31, 7, 4, 0), (34, 7, 5, 0), (37, 7, 6, 1), (41, 7, 7, 0), (44, 10, 2, 0), (59, 0, 3, 0), (90, 6, 2, 2)]
def ti_fr_8 : List (Nat × Nat × Nat × Nat) := [(9, 8, 0, 2), (15, 8, 1, 2), (19, 8, 2, 2), (23, 7, 2, 0), (29, 7, 1, 0), (48, 8, 3, 0), (51, 0, 3, 0), (78, 7, 3, 0), (81, 0, 2, 2)]
def ti_fr_9 : List (Nat × Nat × Nat × Nat) := [(11, 9, 0, 2), (15, 9, 1, 0), (19, 9, 2, 0), (28, 9, 3, 0), (31, 9, 4, 0)]
def ti_fr_10 : List (Nat × Nat × Nat × Nat) := [(9, 10, 0, 2), (15, 10, 1, 2), (18, 10, 2, 0)]
def ti_fr_11 : List (Nat × Nat × Nat × Nat) := [(10, 11, 0, 2), (19, 11, 1, 2), (26, 11, 2, 2), (35, 11, 3, 2), (42, 11, 4, 2), (49, 11, 5, 2), (56, 11, 6, 2), (65, 11, 7, 2), (74, 11, 8, 2), (83, 11, 9, 2), (87, 11, 10, 2), (94, 11, 11, 3), (98, 11, 12, 3), (113, 7, 1, 0), (117, 7, 6, 1), (124, 10, 2, 0), (137, 0, 3, 0), (141, 6, 4, 0), (153, 0, 1, 2), (156, 0, 2, 2), (159, 7, 0, 2), (162, 7, 3, 0), (174, 6, 0, 2), (180, 6, 1, 2), (183, 6, 2, 2), (186, 7, 5, 0), (189, 7, 4, 0), (194, 7, 2, 0), (231, 7, 7, 0), (325, 6, 3, 0), (403, 1, 4, 0), (406, 1, 8, 0), (409, 2, 5, 0)]
def ti_fr_12 : List (Nat × Nat × Nat × Nat) := [(9, 12, 0, 2), (13, 12, 1, 0), (17, 12, 2, 2), (20, 12, 4, 2), (23, 12, 5, 2), (26, 12, 7, 2), (29, 12, 8, 2), (33, 12, 10, 2), (37, 12, 18, 2), (40, 12, 19, 3), (43, 12, 20, 3), (46, 12, 23, 2), (49, 12, 24, 2), (52, 12, 26, 2), (55, 12, 27, 2), (58, 12, 28, 2), (61, 12, 29, 2), (64, 12, 30, 2), (67, 12, 31, 2), (70, 12, 32, 2), (73, 12, 34, 2), (76, 12, 36, 2), (79, 12, 40, 2), (82, 12, 41, 2), (86, 12, 42, 2), (89, 12, 12, 0), (92, 12, 11, 0), (95, 12, 3, 0), (102, 12, 6, 0), (105, 12, 9, 0), (108, 12, 13, 3), (111, 12, 14, 0), (114, 12, 15, 0), (117, 12, 16, 0), (120, 12, 17, 0), (147, 12, 25, 0), (150, 12, 39, 0), (191, 12, 22, 1), (198, 12, 21, 0), (346, 12, 33, 0), (355, 12, 35, 0), (362, 12, 37, 0), (385, 12, 38, 0)]
def ti_fr_13 : List (Nat × Nat × Nat × Nat) := []
def ti_frL : List (List (Nat × Nat × Nat × Nat)) := [ti_fr_0, ti_fr_1, ti_fr_2, ti_fr_3, ti_fr_4, ti_fr_5, ti_fr_6, ti_fr_7, ti_fr_8, ti_fr_9, ti_fr_10, ti_fr_11, ti_fr_12, ti_fr_13]
def ti_fr (o i : Nat) : Option (Nat × Nat × Nat) := ((ti_frL.getD o []).find? (fun e => e.1 == i)).map (fun e => e.2)
abbrev hX11_again : TH := (11, cX11_again, (some .boolean))
abbrev hX11_ahead : TH := (11, cX11_ahead, (some .int))
abbrev hX11_ask : TH := (11, cX11_ask, (some .int))
abbrev hX11_bearer : TH := (11, cX11_bearer, (some .int))
abbrev hX11_bearers : TH := (11, cX11_bearers, (some .int))
abbrev hX11_bears : TH := (11, cX11_bears, (some .int))
abbrev hX11_believe : TH := (11, cX11_believe, (some .int))
abbrev hX11_best : TH := (11, cX11_best, (some .int))
abbrev hX11_bidGets : TH := (11, cX11_bidGets, (some .int))
abbrev hX11_change : TH := (11, cX11_change, (some .int))
abbrev hX11_claim : TH := (11, cX11_claim, (some .int))
abbrev hX11_cornerOrTwelve : TH := (11, cX11_cornerOrTwelve, (some .int))
abbrev hX11_could : TH := (11, cX11_could, (some .int))
abbrev hX11_count : TH := (11, cX11_count, (some .int))
abbrev hX11_cover : TH := (11, cX11_cover, (some .int))
abbrev hX11_end : TH := (11, cX11_end, (some .boolean))
abbrev hX11_fewest : TH := (11, cX11_fewest, (some .int))
abbrev hX11_first : TH := (11, cX11_first, (some .int))
abbrev hX11_force : TH := (11, cX11_force, (some .int))
abbrev hX11_forget : TH := (11, cX11_forget, (some .int))
abbrev hX11_hush : TH := (11, cX11_hush, (some .int))
abbrev hX11_isBestBid : TH := (11, cX11_isBestBid, (some .boolean))
abbrev hX11_keep : TH := (11, cX11_keep, (some .boolean))
abbrev hX11_law : TH := (11, cX11_law, (some .int))
abbrev hX11_leave : TH := (11, cX11_leave, (some .int))
abbrev hX11_lighter : TH := (11, cX11_lighter, (some .int))
abbrev hX11_load : TH := (11, cX11_load, (some .int))
abbrev hX11_old : TH := (11, cX11_old, (some .int))
abbrev hX11_perform : TH := (11, cX11_perform, (some .int))
abbrev hX11_props : TH := (11, cX11_props, (some .int))
abbrev hX11_readAct : TH := (11, cX11_readAct, (some .int))
abbrev hX11_readActs : TH := (11, cX11_readActs, (some .int))
abbrev hX11_rest : TH := (11, cX11_rest, (some .int))
abbrev hX11_rests : TH := (11, cX11_rests, (some .int))
abbrev hX11_row : TH := (11, cX11_row, (some .long))
abbrev hX11_rule : TH := (11, cX11_rule, (some .int))
abbrev hX11_say : TH := (11, cX11_say, (some .int))
abbrev hX11_saying : TH := (11, cX11_saying, (some .int))
abbrev hX11_sayings : TH := (11, cX11_sayings, (some .int))
abbrev hX11_secret : TH := (11, cX11_secret, (some .int))
abbrev hX11_seventh : TH := (11, cX11_seventh, (some .int))
abbrev hX11_sheet : TH := (11, cX11_sheet, (some .int))
abbrev hX11_sign : TH := (11, cX11_sign, (some .int))
abbrev hX11_slant : TH := (11, cX11_slant, (some .int))
abbrev hX11_slips : TH := (11, cX11_slips, (some .int))
abbrev hX11_step : TH := (11, cX11_step, (some .int))
abbrev hX11_sure : TH := (11, cX11_sure, (some .int))
abbrev hX11_take : TH := (11, cX11_take, (some .int))
abbrev hX11_team : TH := (11, cX11_team, (some .int))
abbrev hX11_undo : TH := (11, cX11_undo, (some .int))
abbrev hX11_unsaid : TH := (11, cX11_unsaid, (some .int))
abbrev hX11_walk : TH := (11, cX11_walk, (some .int))
abbrev hX11_way : TH := (11, cX11_way, (some .int))
abbrev hX11_which : TH := (11, cX11_which, (some .int))
abbrev hX11_widow : TH := (11, cX11_widow, (some .int))
abbrev hX11_within : TH := (11, cX11_within, (some .int))
abbrev hX11_worlds : TH := (11, cX11_worlds, (some .int))
abbrev hX11_years : TH := (11, cX11_years, (some .int))
abbrev hX0_forceOf : TH := (0, cX0_forceOf, (some .int))
abbrev hX0_has : TH := (0, cX0_has, (some .boolean))
abbrev hX0_readLine : TH := (0, cX0_readLine, none)
abbrev hX0_readLines : TH := (0, cX0_readLines, (some .int))
abbrev hX0_tallestOf : TH := (0, cX0_tallestOf, (some .int))
abbrev hX0_worth : TH := (0, cX0_worth, (some .int))
abbrev hX1_addClaim : TH := (1, cX1_addClaim, (some .int))
abbrev hX1_addOldWalk : TH := (1, cX1_addOldWalk, (some .int))
abbrev hX1_agreeWithout : TH := (1, cX1_agreeWithout, (some .boolean))
abbrev hX1_bestQuestion : TH := (1, cX1_bestQuestion, (some .int))
abbrev hX1_countWorlds : TH := (1, cX1_countWorlds, (some .int))
abbrev hX1_fewestDisbelieved : TH := (1, cX1_fewestDisbelieved, (some .int))
abbrev hX1_fewestKnowers : TH := (1, cX1_fewestKnowers, (some .int))
abbrev hX1_fitsAll : TH := (1, cX1_fitsAll, (some .boolean))
abbrev hX1_forgetOldWalks : TH := (1, cX1_forgetOldWalks, (some .int))
abbrev hX1_isLesserRow : TH := (1, cX1_isLesserRow, (some .boolean))
abbrev hX1_knowAll : TH := (1, cX1_knowAll, (some .boolean))
abbrev hX1_knownToJust : TH := (1, cX1_knownToJust, (some .int))
abbrev hX1_leastHarm : TH := (1, cX1_leastHarm, (some .int))
abbrev hX1_mostLightening : TH := (1, cX1_mostLightening, (some .int))
abbrev hX1_noteWorld : TH := (1, cX1_noteWorld, none)
abbrev hX1_surveyWorlds : TH := (1, cX1_surveyWorlds, none)
abbrev hX1_takeClaimsBack : TH := (1, cX1_takeClaimsBack, (some .int))
abbrev hX1_trueInAll : TH := (1, cX1_trueInAll, (some .int))
abbrev hX2_bringBack : TH := (2, cX2_bringBack, (some .int))
abbrev hX2_bringBackKept : TH := (2, cX2_bringBackKept, (some .boolean))
abbrev hX2_forgetAll : TH := (2, cX2_forgetAll, none)
abbrev hX2_keepUnder : TH := (2, cX2_keepUnder, (some .boolean))
abbrev hX2_mark : TH := (2, cX2_mark, none)
abbrev hX2_settle : TH := (2, cX2_settle, (some .int))
abbrev hX3_bestSeventh : TH := (3, cX3_bestSeventh, (some .int))
abbrev hX3_doDrawn : TH := (3, cX3_doDrawn, none)
abbrev hX3_draw : TH := (3, cX3_draw, (some .int))
abbrev hX3_fewestBy : TH := (3, cX3_fewestBy, (some .int))
abbrev hX3_fewestSayings : TH := (3, cX3_fewestSayings, (some .int))
abbrev hX3_findBorne : TH := (3, cX3_findBorne, none)
abbrev hX3_firstStagger : TH := (3, cX3_firstStagger, (some .int))
abbrev hX3_firstToSpeak : TH := (3, cX3_firstToSpeak, (some .int))
abbrev hX3_hushes : TH := (3, cX3_hushes, (some .boolean))
abbrev hX3_mostLoad : TH := (3, cX3_mostLoad, (some .int))
abbrev hX3_sayable : TH := (3, cX3_sayable, (some .int))
abbrev hX3_staggersAhead : TH := (3, cX3_staggersAhead, (some .int))
abbrev hX3_staggersDrawn : TH := (3, cX3_staggersDrawn, (some .int))
abbrev hX3_turn : TH := (3, cX3_turn, none)
abbrev hX4_add : TH := (4, cX4_add, none)
abbrev hX4_addMembers : TH := (4, cX4_addMembers, none)
abbrev hX4_at : TH := (4, cX4_at, (some .long))
abbrev hX4_clear : TH := (4, cX4_clear, none)
abbrev hX4_size : TH := (4, cX4_size, (some .int))
abbrev hX4_tell : TH := (4, cX4_tell, none)
abbrev hX4_tell_ : TH := (4, cX4_tell_, none)
abbrev hX5_add : TH := (5, cX5_add, none)
abbrev hX5_compute : TH := (5, cX5_compute, (some .int))
abbrev hX5_joined : TH := (5, cX5_joined, (some .int))
abbrev hX5_levelOf : TH := (5, cX5_levelOf, (some .int))
abbrev hX5_read : TH := (5, cX5_read, (some .int))
abbrev hX5_readJoined : TH := (5, cX5_readJoined, none)
abbrev hX5_readName : TH := (5, cX5_readName, none)
abbrev hX5_readThing : TH := (5, cX5_readThing, none)
abbrev hX5_tell : TH := (5, cX5_tell, (some .int))
abbrev hX5_valueOf : TH := (5, cX5_valueOf, (some .int))
abbrev hX6_harmOf : TH := (6, cX6_harmOf, (some .int))
abbrev hX6_has : TH := (6, cX6_has, (some .boolean))
abbrev hX6_holds : TH := (6, cX6_holds, (some .boolean))
abbrev hX6_isTrue : TH := (6, cX6_isTrue, (some .boolean))
abbrev hX6_knownTo : TH := (6, cX6_knownTo, (some .int))
abbrev hX6_loadAfter : TH := (6, cX6_loadAfter, (some .int))
abbrev hX6_readKnowers : TH := (6, cX6_readKnowers, (some .int))
abbrev hX6_readLine : TH := (6, cX6_readLine, none)
abbrev hX6_readLines : TH := (6, cX6_readLines, (some .int))
abbrev hX6_sumOf : TH := (6, cX6_sumOf, (some .int))
abbrev hX6_weightOf : TH := (6, cX6_weightOf, (some .int))
abbrev hX7_advance : TH := (7, cX7_advance, (some .int))
abbrev hX7_become : TH := (7, cX7_become, none)
abbrev hX7_follow : TH := (7, cX7_follow, (some .int))
abbrev hX7_hindranceTo : TH := (7, cX7_hindranceTo, (some .int))
abbrev hX7_letGo : TH := (7, cX7_letGo, (some .int))
abbrev hX7_moveOn : TH := (7, cX7_moveOn, none)
abbrev hX7_speak : TH := (7, cX7_speak, (some .int))
abbrev hX7_takeHold : TH := (7, cX7_takeHold, (some .int))
abbrev hX8_bestChange : TH := (8, cX8_bestChange, (some .int))
abbrev hX8_chanceToStand : TH := (8, cX8_chanceToStand, (some .int))
abbrev hX8_commonDivisor : TH := (8, cX8_commonDivisor, (some .int))
abbrev hX8_mostUneven : TH := (8, cX8_mostUneven, (some .int))
abbrev hX8_needed : TH := (8, cX8_needed, (some .int))
abbrev hX8_neededHere : TH := (8, cX8_neededHere, (some .int))
abbrev hX8_smallest : TH := (8, cX8_smallest, (some .int))
abbrev hX8_strongest : TH := (8, cX8_strongest, (some .int))
abbrev hX8_strongestOf : TH := (8, cX8_strongestOf, (some .int))
abbrev hX8_waysTo : TH := (8, cX8_waysTo, (some .int))
abbrev hX9_append : TH := (9, cX9_append, (some .int))
abbrev hX9_close : TH := (9, cX9_close, (some .int))
abbrev hX9_open : TH := (9, cX9_open, none)
abbrev hX9_passSeventh : TH := (9, cX9_passSeventh, (some .int))
abbrev hX9_passes : TH := (9, cX9_passes, (some .boolean))
abbrev hX9_peek : TH := (9, cX9_peek, (some .int))
abbrev hX9_readNumber : TH := (9, cX9_readNumber, (some .int))
abbrev hX9_refuse : TH := (9, cX9_refuse, none)
abbrev hX9_require : TH := (9, cX9_require, none)
abbrev hX9_shorten : TH := (9, cX9_shorten, (some .boolean))
abbrev hX9_size : TH := (9, cX9_size, (some .int))
abbrev hX9_skip : TH := (9, cX9_skip, none)
abbrev hX10_copySheet : TH := (10, cX10_copySheet, none)
abbrev hX10_entry : TH := (10, cX10_entry, (some .int))
abbrev hX10_read : TH := (10, cX10_read, (some .int))
abbrev hX10_steepAt : TH := (10, cX10_steepAt, (some .int))
abbrev hX10_steepInAll : TH := (10, cX10_steepInAll, (some .int))
abbrev hX12_act : TH := (12, cX12_act, (some .boolean))
abbrev hX12_again : TH := (12, cX12_again, (some .boolean))
abbrev hX12_ahead : TH := (12, cX12_ahead, (some .int))
abbrev hX12_areSayings : TH := (12, cX12_areSayings, (some .boolean))
abbrev hX12_ask : TH := (12, cX12_ask, (some .int))
abbrev hX12_bearer : TH := (12, cX12_bearer, (some .int))
abbrev hX12_bearers : TH := (12, cX12_bearers, (some .int))
abbrev hX12_bears : TH := (12, cX12_bears, (some .int))
abbrev hX12_bearsOf : TH := (12, cX12_bearsOf, (some .int))
abbrev hX12_begin : TH := (12, cX12_begin, none)
abbrev hX12_beginText : TH := (12, cX12_beginText, none)
abbrev hX12_believe : TH := (12, cX12_believe, (some .int))
abbrev hX12_best : TH := (12, cX12_best, (some .int))
abbrev hX12_bounded : TH := (12, cX12_bounded, (some .int))
abbrev hX12_carry : TH := (12, cX12_carry, (some .int))
abbrev hX12_change : TH := (12, cX12_change, (some .int))
abbrev hX12_claim : TH := (12, cX12_claim, (some .int))
abbrev hX12_common : TH := (12, cX12_common, (some .long))
abbrev hX12_could : TH := (12, cX12_could, (some .int))
abbrev hX12_count : TH := (12, cX12_count, (some .int))
abbrev hX12_cover : TH := (12, cX12_cover, (some .int))
abbrev hX12_doAgree : TH := (12, cX12_doAgree, (some .boolean))
abbrev hX12_doCover : TH := (12, cX12_doCover, (some .boolean))
abbrev hX12_doesKnow : TH := (12, cX12_doesKnow, (some .boolean))
abbrev hX12_draw : TH := (12, cX12_draw, (some .int))
abbrev hX12_end : TH := (12, cX12_end, (some .boolean))
abbrev hX12_fault : TH := (12, cX12_fault, none)
abbrev hX12_fewest : TH := (12, cX12_fewest, (some .int))
abbrev hX12_fine : TH := (12, cX12_fine, (some .boolean))
abbrev hX12_first : TH := (12, cX12_first, (some .int))
abbrev hX12_firstOf : TH := (12, cX12_firstOf, (some .int))
abbrev hX12_force : TH := (12, cX12_force, (some .int))
abbrev hX12_forceOf : TH := (12, cX12_forceOf, (some .int))
abbrev hX12_forget : TH := (12, cX12_forget, (some .int))
abbrev hX12_gets : TH := (12, cX12_gets, (some .int))
abbrev hX12_goHush : TH := (12, cX12_goHush, (some .boolean))
abbrev hX12_goSay : TH := (12, cX12_goSay, none)
abbrev hX12_goStep : TH := (12, cX12_goStep, (some .int))
abbrev hX12_goWidow : TH := (12, cX12_goWidow, none)
abbrev hX12_has : TH := (12, cX12_has, (some .boolean))
abbrev hX12_heavy : TH := (12, cX12_heavy, (some .int))
abbrev hX12_heavyOf : TH := (12, cX12_heavyOf, (some .int))
abbrev hX12_held : TH := (12, cX12_held, (some .int))
abbrev hX12_here : TH := (12, cX12_here, (some .int))
abbrev hX12_hush : TH := (12, cX12_hush, (some .int))
abbrev hX12_hushOf : TH := (12, cX12_hushOf, (some .int))
abbrev hX12_in : TH := (12, cX12_in, (some .boolean))
abbrev hX12_isBest : TH := (12, cX12_isBest, (some .boolean))
abbrev hX12_isFirm : TH := (12, cX12_isFirm, (some .boolean))
abbrev hX12_isMan : TH := (12, cX12_isMan, (some .boolean))
abbrev hX12_isOnHill : TH := (12, cX12_isOnHill, (some .boolean))
abbrev hX12_isSaying : TH := (12, cX12_isSaying, (some .boolean))
abbrev hX12_isSeventh : TH := (12, cX12_isSeventh, (some .boolean))
abbrev hX12_isTrue : TH := (12, cX12_isTrue, (some .boolean))
abbrev hX12_isWorld : TH := (12, cX12_isWorld, (some .boolean))
abbrev hX12_keep : TH := (12, cX12_keep, (some .boolean))
abbrev hX12_knownBy : TH := (12, cX12_knownBy, (some .int))
abbrev hX12_law : TH := (12, cX12_law, (some .int))
abbrev hX12_lay : TH := (12, cX12_lay, none)
abbrev hX12_layRoom : TH := (12, cX12_layRoom, none)
abbrev hX12_leave : TH := (12, cX12_leave, (some .int))
abbrev hX12_letterOf : TH := (12, cX12_letterOf, (some .int))
abbrev hX12_lighter : TH := (12, cX12_lighter, (some .int))
abbrev hX12_load : TH := (12, cX12_load, (some .int))
abbrev hX12_loadBy : TH := (12, cX12_loadBy, (some .int))
abbrev hX12_lost : TH := (12, cX12_lost, (some .int))
abbrev hX12_need : TH := (12, cX12_need, none)
abbrev hX12_needed : TH := (12, cX12_needed, (some .int))
abbrev hX12_number : TH := (12, cX12_number, (some .int))
abbrev hX12_old : TH := (12, cX12_old, (some .int))
abbrev hX12_oneOf : TH := (12, cX12_oneOf, (some .int))
abbrev hX12_passes : TH := (12, cX12_passes, (some .boolean))
abbrev hX12_power : TH := (12, cX12_power, (some .long))
abbrev hX12_product : TH := (12, cX12_product, (some .int))
abbrev hX12_props : TH := (12, cX12_props, (some .int))
abbrev hX12_readAct : TH := (12, cX12_readAct, none)
abbrev hX12_readRule : TH := (12, cX12_readRule, (some .boolean))
abbrev hX12_readSaying : TH := (12, cX12_readSaying, none)
abbrev hX12_refusesLeave : TH := (12, cX12_refusesLeave, (some .int))
abbrev hX12_refusesSay : TH := (12, cX12_refusesSay, (some .int))
abbrev hX12_refusesSeventh : TH := (12, cX12_refusesSeventh, (some .int))
abbrev hX12_refusesStep : TH := (12, cX12_refusesStep, (some .int))
abbrev hX12_refusesTake : TH := (12, cX12_refusesTake, (some .int))
abbrev hX12_remember : TH := (12, cX12_remember, none)
abbrev hX12_rest : TH := (12, cX12_rest, (some .int))
abbrev hX12_rests : TH := (12, cX12_rests, (some .int))
abbrev hX12_row : TH := (12, cX12_row, (some .long))
abbrev hX12_rule : TH := (12, cX12_rule, (some .int))
abbrev hX12_saidBits : TH := (12, cX12_saidBits, (some .int))
abbrev hX12_say : TH := (12, cX12_say, (some .int))
abbrev hX12_saying : TH := (12, cX12_saying, (some .int))
abbrev hX12_sayings : TH := (12, cX12_sayings, (some .int))
abbrev hX12_secret : TH := (12, cX12_secret, (some .int))
abbrev hX12_seventh : TH := (12, cX12_seventh, (some .int))
abbrev hX12_sheet : TH := (12, cX12_sheet, (some .int))
abbrev hX12_sign : TH := (12, cX12_sign, (some .int))
abbrev hX12_slant : TH := (12, cX12_slant, (some .int))
abbrev hX12_slips : TH := (12, cX12_slips, (some .int))
abbrev hX12_steepOf : TH := (12, cX12_steepOf, (some .int))
abbrev hX12_step : TH := (12, cX12_step, (some .int))
abbrev hX12_sum : TH := (12, cX12_sum, (some .int))
abbrev hX12_sure : TH := (12, cX12_sure, (some .int))
abbrev hX12_take : TH := (12, cX12_take, (some .int))
abbrev hX12_tallest : TH := (12, cX12_tallest, (some .int))
abbrev hX12_team : TH := (12, cX12_team, (some .int))
abbrev hX12_tell : TH := (12, cX12_tell, none)
abbrev hX12_thing : TH := (12, cX12_thing, (some .int))
abbrev hX12_thrown : TH := (12, cX12_thrown, (some .int))
abbrev hX12_told : TH := (12, cX12_told, none)
abbrev hX12_undo : TH := (12, cX12_undo, (some .int))
abbrev hX12_unsaid : TH := (12, cX12_unsaid, (some .int))
abbrev hX12_walk : TH := (12, cX12_walk, (some .int))
abbrev hX12_wasRight : TH := (12, cX12_wasRight, (some .boolean))
abbrev hX12_way : TH := (12, cX12_way, (some .int))
abbrev hX12_which : TH := (12, cX12_which, (some .int))
abbrev hX12_widow : TH := (12, cX12_widow, (some .int))
abbrev hX12_worlds : TH := (12, cX12_worlds, (some .int))
abbrev hX12_worldsIf : TH := (12, cX12_worldsIf, (some .int))
abbrev hX12_years : TH := (12, cX12_years, (some .int))
abbrev hJ6_bitCount_0f7a4 : TH := (13, cJ6_bitCount_0f7a4, (some .int))
def ti_mr_0 : List (Nat × TC) := [(26, (0, hX9_open, 2, 2, yX9_open)), (32, (0, hX0_readLine, 3, 3, yX0_readLine)), (36, (0, hX9_passes, 3, 2, yX9_passes)), (40, (0, hX9_refuse, 1, 1, yX9_refuse)), (43, (0, hX9_readNumber, 7, 4, yX9_readNumber)), (47, (0, hX9_require, 2, 2, yX9_require)), (50, (0, hX0_tallestOf, 4, 2, yX0_tallestOf)), (54, (1, hJ6_bitCount_0f7a4, 1, 1, yJ6_bitCount_0f7a4)), (64, (0, hX10_steepAt, 2, 2, yX10_steepAt)), (72, (0, hX5_tell, 8, 8, yX5_tell))]
def ti_mr_1 : List (Nat × TC) := [(38, (1, hJ6_bitCount_0f7a4, 1, 1, yJ6_bitCount_0f7a4)), (44, (0, hX1_knowAll, 4, 3, yX1_knowAll)), (48, (0, hX4_tell, 3, 2, yX4_tell)), (63, (0, hX6_weightOf, 2, 2, yX6_weightOf)), (66, (0, hX4_tell_, 5, 3, yX4_tell_)), (69, (0, hX6_knownTo, 4, 2, yX6_knownTo)), (78, (0, hX1_surveyWorlds, 2, 1, yX1_surveyWorlds)), (99, (0, hX1_fitsAll, 5, 2, yX1_fitsAll)), (103, (0, hX1_noteWorld, 3, 2, yX1_noteWorld)), (107, (0, hX6_harmOf, 2, 2, yX6_harmOf)), (110, (1, hX1_isLesserRow, 3, 2, yX1_isLesserRow)), (113, (0, hX4_clear, 1, 1, yX4_clear)), (116, (0, hX4_addMembers, 3, 2, yX4_addMembers)), (122, (0, hX1_agreeWithout, 5, 2, yX1_agreeWithout))]
def ti_mr_2 : List (Nat × TC) := [(32, (0, hX7_become, 2, 2, yX7_become))]
def ti_mr_3 : List (Nat × TC) := [(44, (0, hX7_become, 2, 2, yX7_become)), (57, (0, hX7_advance, 5, 4, yX7_advance)), (69, (0, hX4_tell_, 5, 3, yX4_tell_)), (78, (0, hX3_findBorne, 4, 3, yX3_findBorne)), (85, (0, hX0_forceOf, 9, 4, yX0_forceOf)), (89, (0, hX10_steepAt, 2, 2, yX10_steepAt)), (93, (0, hX7_moveOn, 5, 3, yX7_moveOn)), (106, (0, hX3_fewestBy, 5, 3, yX3_fewestBy)), (110, (0, hX4_clear, 1, 1, yX4_clear)), (113, (1, hX3_firstToSpeak, 1, 1, yX3_firstToSpeak)), (117, (0, hX4_add, 3, 2, yX4_add)), (133, (0, hX6_knownTo, 4, 2, yX6_knownTo)), (139, (0, hX3_hushes, 9, 6, yX3_hushes)), (144, (0, hX6_loadAfter, 3, 3, yX6_loadAfter)), (147, (0, hX7_hindranceTo, 4, 4, yX7_hindranceTo)), (154, (0, hX3_doDrawn, 2, 2, yX3_doDrawn)), (158, (0, hX3_draw, 2, 2, yX3_draw)), (161, (0, hX3_turn, 2, 2, yX3_turn)), (165, (0, hX7_speak, 5, 4, yX7_speak)), (168, (0, hX7_follow, 3, 2, yX7_follow)), (171, (0, hX7_letGo, 3, 3, yX7_letGo)), (175, (0, hX7_takeHold, 3, 3, yX7_takeHold))]
def ti_mr_4 : List (Nat × TC) := [(19, (0, hX4_clear, 1, 1, yX4_clear)), (22, (0, hX4_add, 3, 2, yX4_add)), (26, (0, hX4_tell, 3, 2, yX4_tell))]
def ti_mr_5 : List (Nat × TC) := [(25, (2, hX11_within, 3, 3, yX11_within)), (29, (0, hX5_compute, 4, 1, yX5_compute)), (33, (1, hX5_joined, 3, 3, yX5_joined)), (36, (0, hX5_valueOf, 2, 2, yX5_valueOf)), (40, (0, hX9_open, 2, 2, yX9_open)), (46, (0, hX9_size, 1, 1, yX9_size)), (48, (0, hX5_readJoined, 7, 4, yX5_readJoined)), (52, (0, hX9_close, 2, 1, yX9_close)), (55, (0, hX5_readThing, 5, 3, yX5_readThing)), (59, (0, hX9_peek, 1, 1, yX9_peek)), (62, (1, hX5_levelOf, 1, 1, yX5_levelOf)), (65, (0, hX9_skip, 1, 1, yX9_skip)), (68, (0, hX5_add, 2, 2, yX5_add)), (71, (0, hX9_passes, 3, 2, yX9_passes)), (75, (0, hX9_readNumber, 7, 4, yX9_readNumber)), (78, (0, hX9_require, 2, 2, yX9_require)), (81, (0, hX5_readName, 4, 3, yX5_readName)), (91, (0, hX9_refuse, 1, 1, yX9_refuse))]
def ti_mr_6 : List (Nat × TC) := [(28, (0, hX6_sumOf, 5, 3, yX6_sumOf)), (32, (0, hX6_isTrue, 2, 2, yX6_isTrue)), (36, (2, hX11_within, 3, 3, yX11_within)), (40, (0, hX9_open, 2, 2, yX9_open)), (46, (0, hX6_readLine, 3, 3, yX6_readLine)), (50, (0, hX9_passes, 3, 2, yX9_passes)), (53, (0, hX9_refuse, 1, 1, yX9_refuse)), (56, (0, hX9_readNumber, 7, 4, yX9_readNumber)), (59, (0, hX9_require, 2, 2, yX9_require)), (62, (1, hX6_readKnowers, 4, 1, yX6_readKnowers)), (66, (0, hX9_passSeventh, 3, 2, yX9_passSeventh))]
def ti_mr_7 : List (Nat × TC) := [(49, (0, hX0_forceOf, 9, 4, yX0_forceOf)), (55, (0, hX10_steepAt, 2, 2, yX10_steepAt)), (62, (0, hX7_moveOn, 5, 3, yX7_moveOn)), (66, (2, hX11_within, 3, 3, yX11_within)), (70, (0, hX0_has, 2, 2, yX0_has)), (74, (1, hJ6_bitCount_0f7a4, 1, 1, yJ6_bitCount_0f7a4)), (79, (0, hX6_has, 2, 2, yX6_has)), (82, (0, hX7_hindranceTo, 4, 4, yX7_hindranceTo)), (86, (0, hX6_loadAfter, 3, 3, yX6_loadAfter))]
def ti_mr_8 : List (Nat × TC) := [(32, (0, hX10_steepAt, 2, 2, yX10_steepAt)), (38, (0, hX8_strongestOf, 7, 4, yX8_strongestOf)), (42, (0, hX4_tell, 3, 2, yX4_tell)), (56, (1, hJ6_bitCount_0f7a4, 1, 1, yJ6_bitCount_0f7a4)), (61, (0, hX0_forceOf, 9, 4, yX0_forceOf)), (71, (0, hX8_neededHere, 2, 2, yX8_neededHere)), (75, (0, hX4_tell_, 5, 3, yX4_tell_)), (88, (0, hX8_waysTo, 6, 4, yX8_waysTo)), (92, (1, hX8_commonDivisor, 6, 2, yX8_commonDivisor))]
def ti_mr_9 : List (Nat × TC) := [(34, (0, hX9_peek, 1, 1, yX9_peek)), (38, (0, hX9_skip, 1, 1, yX9_skip)), (41, (0, hX9_passes, 3, 2, yX9_passes)), (45, (0, hX9_refuse, 1, 1, yX9_refuse))]
def ti_mr_10 : List (Nat × TC) := [(22, (0, hX9_open, 2, 2, yX9_open)), (28, (0, hX9_readNumber, 7, 4, yX9_readNumber)), (32, (0, hX9_peek, 1, 1, yX9_peek)), (36, (0, hX9_close, 2, 1, yX9_close)), (45, (1, hX10_entry, 2, 2, yX10_entry)), (49, (2, hX11_within, 3, 3, yX11_within))]
def ti_mr_11 : List (Nat × TC) := [(101, (0, hX9_append, 3, 2, yX9_append)), (105, (0, hX9_shorten, 2, 2, yX9_shorten)), (109, (0, hX10_read, 4, 2, yX10_read)), (121, (0, hX2_forgetAll, 1, 1, yX2_forgetAll)), (127, (0, hX9_size, 1, 1, yX9_size)), (131, (0, hX0_readLines, 3, 2, yX0_readLines)), (134, (0, hX9_close, 2, 1, yX9_close)), (140, (0, hX6_readLines, 3, 2, yX6_readLines)), (142, (0, hX5_read, 2, 2, yX5_read)), (143, (0, hX0_has, 2, 2, yX0_has)), (165, (0, hX0_worth, 6, 6, yX0_worth)), (171, (0, hX6_has, 2, 2, yX6_has)), (177, (0, hX6_isTrue, 2, 2, yX6_isTrue)), (197, (0, hX10_steepAt, 2, 2, yX10_steepAt)), (200, (1, hJ6_bitCount_0f7a4, 1, 1, yJ6_bitCount_0f7a4)), (205, (0, hX4_tell_, 5, 3, yX4_tell_)), (209, (0, hX0_forceOf, 9, 4, yX0_forceOf)), (213, (0, hX10_copySheet, 6, 5, yX10_copySheet)), (217, (0, hX10_steepInAll, 3, 1, yX10_steepInAll)), (220, (0, hX2_mark, 2, 2, yX2_mark)), (224, (0, hX7_advance, 5, 4, yX7_advance)), (228, (0, hX2_settle, 2, 2, yX2_settle)), (234, (0, hX7_takeHold, 3, 3, yX7_takeHold)), (238, (0, hX7_letGo, 3, 3, yX7_letGo)), (241, (0, hX7_follow, 3, 2, yX7_follow)), (244, (0, hX7_speak, 5, 4, yX7_speak)), (248, (0, hX11_readActs, 2, 1, yX11_readActs)), (251, (0, hX11_perform, 3, 2, yX11_perform)), (254, (0, hX9_open, 2, 2, yX9_open)), (258, (0, hX9_peek, 1, 1, yX9_peek)), (261, (0, hX11_readAct, 3, 1, yX11_readAct)), (264, (0, hX9_skip, 1, 1, yX9_skip)), (267, (0, hX9_readNumber, 7, 4, yX9_readNumber)), (271, (0, hX9_passSeventh, 3, 2, yX9_passSeventh)), (274, (0, hX9_refuse, 1, 1, yX9_refuse)), (277, (0, hX2_bringBack, 2, 2, yX2_bringBack)), (281, (0, hX3_staggersAhead, 6, 4, yX3_staggersAhead)), (285, (0, hX3_firstStagger, 4, 3, yX3_firstStagger)), (289, (0, hX3_mostLoad, 3, 3, yX3_mostLoad)), (292, (0, hX3_fewestSayings, 5, 3, yX3_fewestSayings)), (295, (0, hX3_bestSeventh, 7, 3, yX3_bestSeventh)), (298, (0, hX3_sayable, 7, 2, yX3_sayable)), (301, (0, hX8_strongest, 4, 4, yX8_strongest)), (304, (0, hX8_smallest, 6, 3, yX8_smallest)), (307, (0, hX8_bestChange, 7, 3, yX8_bestChange)), (310, (0, hX8_needed, 5, 3, yX8_needed)), (313, (0, hX4_tell, 3, 2, yX4_tell)), (316, (0, hX8_mostUneven, 6, 2, yX8_mostUneven)), (319, (0, hX6_holds, 2, 2, yX6_holds)), (322, (0, hX1_fewestKnowers, 4, 2, yX1_fewestKnowers)), (328, (0, hX6_knownTo, 4, 2, yX6_knownTo)), (331, (0, hX6_weightOf, 2, 2, yX6_weightOf)), (334, (0, hX1_knownToJust, 4, 2, yX1_knownToJust)), (337, (0, hX1_mostLightening, 9, 2, yX1_mostLightening)), (340, (0, hX1_addOldWalk, 3, 3, yX1_addOldWalk)), (344, (0, hX1_forgetOldWalks, 2, 1, yX1_forgetOldWalks)), (347, (0, hX1_countWorlds, 1, 1, yX1_countWorlds)), (350, (0, hX1_trueInAll, 1, 1, yX1_trueInAll)), (353, (0, hX1_bestQuestion, 5, 1, yX1_bestQuestion)), (364, (0, hX1_leastHarm, 7, 3, yX1_leastHarm)), (367, (0, hX1_addClaim, 4, 4, yX1_addClaim)), (370, (0, hX1_takeClaimsBack, 2, 1, yX1_takeClaimsBack)), (373, (0, hX1_fewestDisbelieved, 3, 1, yX1_fewestDisbelieved)), (376, (0, hX8_chanceToStand, 7, 4, yX8_chanceToStand)), (379, (0, hX4_clear, 1, 1, yX4_clear)), (382, (1, hX11_isBestBid, 5, 3, yX11_isBestBid)), (386, (1, hX11_bidGets, 3, 3, yX11_bidGets)), (389, (1, hX11_cornerOrTwelve, 1, 1, yX11_cornerOrTwelve)), (392, (0, hX3_staggersDrawn, 6, 5, yX3_staggersDrawn)), (396, (0, hX2_keepUnder, 3, 3, yX2_keepUnder)), (400, (0, hX2_bringBackKept, 3, 3, yX2_bringBackKept)), (410, (0, hX4_size, 1, 1, yX4_size)), (413, (0, hX4_at, 2, 2, yX4_at))]
def ti_mr_12 : List (Nat × TC) := [(98, (1, hX12_in, 3, 3, yX12_in)), (123, (0, hX12_begin, 4, 4, yX12_begin)), (127, (0, hX12_fine, 1, 1, yX12_fine)), (131, (0, hX12_here, 1, 1, yX12_here)), (135, (0, hX12_passes, 2, 2, yX12_passes)), (139, (0, hX12_fault, 2, 2, yX12_fault)), (143, (0, hX12_oneOf, 3, 3, yX12_oneOf)), (153, (0, hX12_beginText, 2, 2, yX12_beginText)), (156, (0, hX12_wasRight, 1, 1, yX12_wasRight)), (159, (0, hX12_told, 1, 1, yX12_told)), (162, (0, hX12_number, 4, 2, yX12_number)), (166, (0, hX12_bounded, 3, 2, yX12_bounded)), (169, (0, hX12_need, 2, 2, yX12_need)), (173, (0, hX12_readSaying, 4, 2, yX12_readSaying)), (176, (0, hX12_sum, 5, 2, yX12_sum)), (179, (0, hX12_product, 5, 2, yX12_product)), (182, (0, hX12_thing, 4, 2, yX12_thing)), (185, (0, hX12_held, 3, 2, yX12_held)), (188, (1, hX12_letterOf, 1, 1, yX12_letterOf)), (195, (0, hX12_readRule, 1, 1, yX12_readRule)), (201, (1, hX12_has, 2, 2, yX12_has)), (211, (0, hX12_tallest, 4, 2, yX12_tallest)), (214, (1, hJ6_bitCount_0f7a4, 1, 1, yJ6_bitCount_0f7a4)), (219, (0, hX12_steepOf, 2, 2, yX12_steepOf)), (226, (0, hX12_bearsOf, 6, 4, yX12_bearsOf)), (230, (0, hX12_forceOf, 5, 3, yX12_forceOf)), (234, (0, hX12_needed, 2, 2, yX12_needed)), (237, (0, hX12_isMan, 2, 2, yX12_isMan)), (241, (0, hX12_lost, 1, 1, yX12_lost)), (244, (0, hX12_carry, 4, 2, yX12_carry)), (247, (0, hX12_isSaying, 2, 2, yX12_isSaying)), (250, (0, hX12_doesKnow, 3, 3, yX12_doesKnow)), (253, (0, hX12_tell, 3, 2, yX12_tell)), (257, (1, hX12_lay, 4, 3, yX12_lay)), (261, (0, hX12_isOnHill, 2, 2, yX12_isOnHill)), (265, (0, hX12_isFirm, 3, 3, yX12_isFirm)), (269, (0, hX12_refusesStep, 2, 2, yX12_refusesStep)), (272, (0, hX12_remember, 3, 2, yX12_remember)), (276, (0, hX12_goStep, 4, 2, yX12_goStep)), (279, (0, hX12_refusesTake, 3, 3, yX12_refusesTake)), (282, (0, hX12_refusesLeave, 2, 2, yX12_refusesLeave)), (285, (1, hX12_isSeventh, 1, 1, yX12_isSeventh)), (288, (0, hX12_refusesSeventh, 2, 2, yX12_refusesSeventh)), (291, (0, hX12_isTrue, 2, 2, yX12_isTrue)), (294, (0, hX12_heavy, 2, 2, yX12_heavy)), (297, (0, hX12_loadBy, 3, 3, yX12_loadBy)), (300, (0, hX12_refusesSay, 3, 3, yX12_refusesSay)), (303, (0, hX12_goSay, 3, 3, yX12_goSay)), (307, (0, hX12_readAct, 3, 2, yX12_readAct)), (310, (0, hX12_act, 3, 3, yX12_act)), (313, (0, hX12_firstOf, 1, 1, yX12_firstOf)), (316, (0, hX12_goHush, 9, 7, yX12_goHush)), (320, (0, hX12_layRoom, 1, 1, yX12_layRoom)), (323, (0, hX12_saidBits, 3, 1, yX12_saidBits)), (326, (0, hX12_hushOf, 3, 2, yX12_hushOf)), (333, (0, hX12_areSayings, 2, 2, yX12_areSayings)), (336, (0, hX12_doCover, 4, 3, yX12_doCover)), (339, (0, hX12_knownBy, 5, 3, yX12_knownBy)), (343, (0, hX12_heavyOf, 4, 2, yX12_heavyOf)), (349, (0, hX12_isWorld, 3, 2, yX12_isWorld)), (352, (0, hX12_worldsIf, 5, 3, yX12_worldsIf)), (358, (0, hX12_goWidow, 6, 5, yX12_goWidow)), (365, (0, hX12_doAgree, 4, 2, yX12_doAgree)), (368, (1, hX12_common, 4, 2, yX12_common)), (372, (1, hX12_power, 6, 2, yX12_power)), (378, (1, hX12_gets, 3, 3, yX12_gets)), (382, (1, hX12_isBest, 4, 3, yX12_isBest)), (389, (0, hX12_draw, 2, 2, yX12_draw))]
def ti_mr_13 : List (Nat × TC) := []
def ti_mrL : List (List (Nat × TC)) := [ti_mr_0, ti_mr_1, ti_mr_2, ti_mr_3, ti_mr_4, ti_mr_5, ti_mr_6, ti_mr_7, ti_mr_8, ti_mr_9, ti_mr_10, ti_mr_11, ti_mr_12, ti_mr_13]
def ti_mr (o i : Nat) : Option TC := ((ti_mrL.getD o []).find? (fun e => e.1 == i)).map (fun e => e.2)
def ti_br_0 : List (Nat × Nat) := []
def ti_br_1 : List (Nat × Nat) := [(93, 0)]
def ti_br_2 : List (Nat × Nat) := [(39, 1)]
def ti_br_3 : List (Nat × Nat) := [(97, 1)]
def ti_br_4 : List (Nat × Nat) := []
def ti_br_5 : List (Nat × Nat) := [(86, 4)]
def ti_br_6 : List (Nat × Nat) := []
def ti_br_7 : List (Nat × Nat) := [(19, 3)]
def ti_br_8 : List (Nat × Nat) := [(65, 1), (85, 2), (95, 0)]
def ti_br_9 : List (Nat × Nat) := [(22, 1)]
def ti_br_10 : List (Nat × Nat) := [(39, 3)]
def ti_br_11 : List (Nat × Nat) := [(356, 1), (361, 0)]
def ti_br_12 : List (Nat × Nat) := [(205, 0), (223, 1), (330, 2)]
def ti_br_13 : List (Nat × Nat) := []
def ti_brL : List (List (Nat × Nat)) := [ti_br_0, ti_br_1, ti_br_2, ti_br_3, ti_br_4, ti_br_5, ti_br_6, ti_br_7, ti_br_8, ti_br_9, ti_br_10, ti_br_11, ti_br_12, ti_br_13]
def ti_br (o i : Nat) : Option Nat := ((ti_brL.getD o []).find? (fun e => e.1 == i)).map (fun e => e.2)
def ti_cs_0 : List (Nat × Value) := []
def ti_cs_1 : List (Nat × Value) := [(125, .long (15))]
def ti_cs_2 : List (Nat × Value) := []
def ti_cs_3 : List (Nat × Value) := [(178, .int (1103515245))]
def ti_cs_4 : List (Nat × Value) := [(29, .long (-1))]
def ti_cs_5 : List (Nat × Value) := [(84, .ref 900)]
def ti_cs_6 : List (Nat × Value) := []
def ti_cs_7 : List (Nat × Value) := []
def ti_cs_8 : List (Nat × Value) := []
def ti_cs_9 : List (Nat × Value) := []
def ti_cs_10 : List (Nat × Value) := []
def ti_cs_11 : List (Nat × Value) := []
def ti_cs_12 : List (Nat × Value) := [(329, .int (1000000)), (376, .long (10)), (388, .int (1103515245))]
def ti_cs_13 : List (Nat × Value) := [(265, .int (1431655765)), (266, .int (858993459)), (267, .int (252645135))]
def ti_csL : List (List (Nat × Value)) := [ti_cs_0, ti_cs_1, ti_cs_2, ti_cs_3, ti_cs_4, ti_cs_5, ti_cs_6, ti_cs_7, ti_cs_8, ti_cs_9, ti_cs_10, ti_cs_11, ti_cs_12, ti_cs_13]
def ti_cs (o i : Nat) : Option Value := ((ti_csL.getD o []).find? (fun e => e.1 == i)).map (fun e => e.2)
theorem fr_0_9 : ti_fr 0 9 = some (0, 1, 2) := rfl
theorem fr_0_15 : ti_fr 0 15 = some (0, 2, 2) := rfl
theorem fr_0_18 : ti_fr 0 18 = some (0, 0, 2) := rfl
theorem fr_0_22 : ti_fr 0 22 = some (0, 3, 0) := rfl
theorem fr_0_59 : ti_fr 0 59 = some (7, 1, 0) := rfl
theorem fr_0_69 : ti_fr 0 69 = some (7, 0, 2) := rfl
theorem mr_0_26 : ti_mr 0 26 = some (0, hX9_open, 2, 2, yX9_open) := rfl
theorem mr_0_32 : ti_mr 0 32 = some (0, hX0_readLine, 3, 3, yX0_readLine) := rfl
theorem mr_0_36 : ti_mr 0 36 = some (0, hX9_passes, 3, 2, yX9_passes) := rfl
theorem mr_0_40 : ti_mr 0 40 = some (0, hX9_refuse, 1, 1, yX9_refuse) := rfl
theorem mr_0_43 : ti_mr 0 43 = some (0, hX9_readNumber, 7, 4, yX9_readNumber) := rfl
theorem mr_0_47 : ti_mr 0 47 = some (0, hX9_require, 2, 2, yX9_require) := rfl
theorem mr_0_50 : ti_mr 0 50 = some (0, hX0_tallestOf, 4, 2, yX0_tallestOf) := rfl
theorem mr_0_54 : ti_mr 0 54 = some (1, hJ6_bitCount_0f7a4, 1, 1, yJ6_bitCount_0f7a4) := rfl
theorem mr_0_64 : ti_mr 0 64 = some (0, hX10_steepAt, 2, 2, yX10_steepAt) := rfl
theorem mr_0_72 : ti_mr 0 72 = some (0, hX5_tell, 8, 8, yX5_tell) := rfl
theorem fr_1_11 : ti_fr 1 11 = some (1, 2, 2) := rfl
theorem fr_1_15 : ti_fr 1 15 = some (1, 3, 2) := rfl
theorem fr_1_18 : ti_fr 1 18 = some (1, 5, 2) := rfl
theorem fr_1_21 : ti_fr 1 21 = some (1, 6, 2) := rfl
theorem fr_1_24 : ti_fr 1 24 = some (1, 7, 2) := rfl
theorem fr_1_27 : ti_fr 1 27 = some (1, 13, 2) := rfl
theorem fr_1_30 : ti_fr 1 30 = some (1, 0, 2) := rfl
theorem fr_1_34 : ti_fr 1 34 = some (1, 1, 2) := rfl
theorem fr_1_54 : ti_fr 1 54 = some (6, 4, 0) := rfl
theorem fr_1_60 : ti_fr 1 60 = some (6, 2, 2) := rfl
theorem fr_1_72 : ti_fr 1 72 = some (6, 3, 0) := rfl
theorem fr_1_75 : ti_fr 1 75 = some (1, 4, 0) := rfl
theorem fr_1_81 : ti_fr 1 81 = some (1, 10, 0) := rfl
theorem fr_1_84 : ti_fr 1 84 = some (1, 9, 0) := rfl
theorem fr_1_87 : ti_fr 1 87 = some (1, 12, 0) := rfl
theorem fr_1_90 : ti_fr 1 90 = some (1, 11, 0) := rfl
theorem fr_1_119 : ti_fr 1 119 = some (1, 8, 0) := rfl
theorem mr_1_38 : ti_mr 1 38 = some (1, hJ6_bitCount_0f7a4, 1, 1, yJ6_bitCount_0f7a4) := rfl
theorem mr_1_44 : ti_mr 1 44 = some (0, hX1_knowAll, 4, 3, yX1_knowAll) := rfl
theorem mr_1_48 : ti_mr 1 48 = some (0, hX4_tell, 3, 2, yX4_tell) := rfl
theorem mr_1_63 : ti_mr 1 63 = some (0, hX6_weightOf, 2, 2, yX6_weightOf) := rfl
theorem mr_1_66 : ti_mr 1 66 = some (0, hX4_tell_, 5, 3, yX4_tell_) := rfl
theorem mr_1_69 : ti_mr 1 69 = some (0, hX6_knownTo, 4, 2, yX6_knownTo) := rfl
theorem mr_1_78 : ti_mr 1 78 = some (0, hX1_surveyWorlds, 2, 1, yX1_surveyWorlds) := rfl
theorem mr_1_99 : ti_mr 1 99 = some (0, hX1_fitsAll, 5, 2, yX1_fitsAll) := rfl
theorem mr_1_103 : ti_mr 1 103 = some (0, hX1_noteWorld, 3, 2, yX1_noteWorld) := rfl
theorem mr_1_107 : ti_mr 1 107 = some (0, hX6_harmOf, 2, 2, yX6_harmOf) := rfl
theorem mr_1_110 : ti_mr 1 110 = some (1, hX1_isLesserRow, 3, 2, yX1_isLesserRow) := rfl
theorem mr_1_113 : ti_mr 1 113 = some (0, hX4_clear, 1, 1, yX4_clear) := rfl
theorem mr_1_116 : ti_mr 1 116 = some (0, hX4_addMembers, 3, 2, yX4_addMembers) := rfl
theorem mr_1_122 : ti_mr 1 122 = some (0, hX1_agreeWithout, 5, 2, yX1_agreeWithout) := rfl
theorem br_1_93 : ti_br 1 93 = some 0 := rfl
theorem fr_2_13 : ti_fr 2 13 = some (2, 0, 2) := rfl
theorem fr_2_17 : ti_fr 2 17 = some (2, 1, 2) := rfl
theorem fr_2_21 : ti_fr 2 21 = some (2, 2, 2) := rfl
theorem fr_2_25 : ti_fr 2 25 = some (2, 5, 0) := rfl
theorem fr_2_29 : ti_fr 2 29 = some (2, 3, 0) := rfl
theorem fr_2_36 : ti_fr 2 36 = some (2, 4, 0) := rfl
theorem mr_2_32 : ti_mr 2 32 = some (0, hX7_become, 2, 2, yX7_become) := rfl
theorem br_2_39 : ti_br 2 39 = some 1 := rfl
theorem fr_3_12 : ti_fr 3 12 = some (3, 4, 2) := rfl
theorem fr_3_18 : ti_fr 3 18 = some (3, 5, 2) := rfl
theorem fr_3_22 : ti_fr 3 22 = some (3, 6, 2) := rfl
theorem fr_3_25 : ti_fr 3 25 = some (3, 7, 2) := rfl
theorem fr_3_28 : ti_fr 3 28 = some (3, 0, 2) := rfl
theorem fr_3_32 : ti_fr 3 32 = some (3, 1, 2) := rfl
theorem fr_3_36 : ti_fr 3 36 = some (3, 2, 2) := rfl
theorem fr_3_40 : ti_fr 3 40 = some (3, 3, 2) := rfl
theorem fr_3_48 : ti_fr 3 48 = some (7, 1, 0) := rfl
theorem fr_3_52 : ti_fr 3 52 = some (10, 2, 0) := rfl
theorem fr_3_61 : ti_fr 3 61 = some (0, 3, 0) := rfl
theorem fr_3_66 : ti_fr 3 66 = some (7, 0, 2) := rfl
theorem fr_3_75 : ti_fr 3 75 = some (7, 7, 0) := rfl
theorem fr_3_82 : ti_fr 3 82 = some (7, 3, 0) := rfl
theorem fr_3_103 : ti_fr 3 103 = some (7, 4, 0) := rfl
theorem fr_3_121 : ti_fr 3 121 = some (7, 6, 1) := rfl
theorem fr_3_125 : ti_fr 3 125 = some (7, 2, 0) := rfl
theorem fr_3_128 : ti_fr 3 128 = some (6, 3, 0) := rfl
theorem fr_3_136 : ti_fr 3 136 = some (7, 5, 0) := rfl
theorem fr_3_143 : ti_fr 3 143 = some (6, 4, 0) := rfl
theorem fr_3_151 : ti_fr 3 151 = some (3, 8, 0) := rfl
theorem mr_3_44 : ti_mr 3 44 = some (0, hX7_become, 2, 2, yX7_become) := rfl
theorem mr_3_57 : ti_mr 3 57 = some (0, hX7_advance, 5, 4, yX7_advance) := rfl
theorem mr_3_69 : ti_mr 3 69 = some (0, hX4_tell_, 5, 3, yX4_tell_) := rfl
theorem mr_3_78 : ti_mr 3 78 = some (0, hX3_findBorne, 4, 3, yX3_findBorne) := rfl
theorem mr_3_85 : ti_mr 3 85 = some (0, hX0_forceOf, 9, 4, yX0_forceOf) := rfl
theorem mr_3_89 : ti_mr 3 89 = some (0, hX10_steepAt, 2, 2, yX10_steepAt) := rfl
theorem mr_3_93 : ti_mr 3 93 = some (0, hX7_moveOn, 5, 3, yX7_moveOn) := rfl
theorem mr_3_106 : ti_mr 3 106 = some (0, hX3_fewestBy, 5, 3, yX3_fewestBy) := rfl
theorem mr_3_110 : ti_mr 3 110 = some (0, hX4_clear, 1, 1, yX4_clear) := rfl
theorem mr_3_113 : ti_mr 3 113 = some (1, hX3_firstToSpeak, 1, 1, yX3_firstToSpeak) := rfl
theorem mr_3_117 : ti_mr 3 117 = some (0, hX4_add, 3, 2, yX4_add) := rfl
theorem mr_3_133 : ti_mr 3 133 = some (0, hX6_knownTo, 4, 2, yX6_knownTo) := rfl
theorem mr_3_139 : ti_mr 3 139 = some (0, hX3_hushes, 9, 6, yX3_hushes) := rfl
theorem mr_3_144 : ti_mr 3 144 = some (0, hX6_loadAfter, 3, 3, yX6_loadAfter) := rfl
theorem mr_3_147 : ti_mr 3 147 = some (0, hX7_hindranceTo, 4, 4, yX7_hindranceTo) := rfl
theorem mr_3_154 : ti_mr 3 154 = some (0, hX3_doDrawn, 2, 2, yX3_doDrawn) := rfl
theorem mr_3_158 : ti_mr 3 158 = some (0, hX3_draw, 2, 2, yX3_draw) := rfl
theorem mr_3_161 : ti_mr 3 161 = some (0, hX3_turn, 2, 2, yX3_turn) := rfl
theorem mr_3_165 : ti_mr 3 165 = some (0, hX7_speak, 5, 4, yX7_speak) := rfl
theorem mr_3_168 : ti_mr 3 168 = some (0, hX7_follow, 3, 2, yX7_follow) := rfl
theorem mr_3_171 : ti_mr 3 171 = some (0, hX7_letGo, 3, 3, yX7_letGo) := rfl
theorem mr_3_175 : ti_mr 3 175 = some (0, hX7_takeHold, 3, 3, yX7_takeHold) := rfl
theorem br_3_97 : ti_br 3 97 = some 1 := rfl
theorem fr_4_9 : ti_fr 4 9 = some (4, 0, 2) := rfl
theorem fr_4_15 : ti_fr 4 15 = some (4, 1, 0) := rfl
theorem mr_4_19 : ti_mr 4 19 = some (0, hX4_clear, 1, 1, yX4_clear) := rfl
theorem mr_4_22 : ti_mr 4 22 = some (0, hX4_add, 3, 2, yX4_add) := rfl
theorem mr_4_26 : ti_mr 4 26 = some (0, hX4_tell, 3, 2, yX4_tell) := rfl
theorem fr_5_11 : ti_fr 5 11 = some (5, 0, 2) := rfl
theorem fr_5_15 : ti_fr 5 15 = some (5, 1, 2) := rfl
theorem fr_5_18 : ti_fr 5 18 = some (5, 2, 2) := rfl
theorem fr_5_21 : ti_fr 5 21 = some (5, 3, 0) := rfl
theorem mr_5_25 : ti_mr 5 25 = some (2, hX11_within, 3, 3, yX11_within) := rfl
theorem mr_5_29 : ti_mr 5 29 = some (0, hX5_compute, 4, 1, yX5_compute) := rfl
theorem mr_5_33 : ti_mr 5 33 = some (1, hX5_joined, 3, 3, yX5_joined) := rfl
theorem mr_5_36 : ti_mr 5 36 = some (0, hX5_valueOf, 2, 2, yX5_valueOf) := rfl
theorem mr_5_40 : ti_mr 5 40 = some (0, hX9_open, 2, 2, yX9_open) := rfl
theorem mr_5_46 : ti_mr 5 46 = some (0, hX9_size, 1, 1, yX9_size) := rfl
theorem mr_5_48 : ti_mr 5 48 = some (0, hX5_readJoined, 7, 4, yX5_readJoined) := rfl
theorem mr_5_52 : ti_mr 5 52 = some (0, hX9_close, 2, 1, yX9_close) := rfl
theorem mr_5_55 : ti_mr 5 55 = some (0, hX5_readThing, 5, 3, yX5_readThing) := rfl
theorem mr_5_59 : ti_mr 5 59 = some (0, hX9_peek, 1, 1, yX9_peek) := rfl
theorem mr_5_62 : ti_mr 5 62 = some (1, hX5_levelOf, 1, 1, yX5_levelOf) := rfl
theorem mr_5_65 : ti_mr 5 65 = some (0, hX9_skip, 1, 1, yX9_skip) := rfl
theorem mr_5_68 : ti_mr 5 68 = some (0, hX5_add, 2, 2, yX5_add) := rfl
theorem mr_5_71 : ti_mr 5 71 = some (0, hX9_passes, 3, 2, yX9_passes) := rfl
theorem mr_5_75 : ti_mr 5 75 = some (0, hX9_readNumber, 7, 4, yX9_readNumber) := rfl
theorem mr_5_78 : ti_mr 5 78 = some (0, hX9_require, 2, 2, yX9_require) := rfl
theorem mr_5_81 : ti_mr 5 81 = some (0, hX5_readName, 4, 3, yX5_readName) := rfl
theorem mr_5_91 : ti_mr 5 91 = some (0, hX9_refuse, 1, 1, yX9_refuse) := rfl
theorem br_5_86 : ti_br 5 86 = some 4 := rfl
theorem fr_6_9 : ti_fr 6 9 = some (6, 0, 2) := rfl
theorem fr_6_15 : ti_fr 6 15 = some (6, 1, 2) := rfl
theorem fr_6_18 : ti_fr 6 18 = some (6, 2, 2) := rfl
theorem fr_6_21 : ti_fr 6 21 = some (6, 4, 0) := rfl
theorem fr_6_25 : ti_fr 6 25 = some (6, 3, 0) := rfl
theorem mr_6_28 : ti_mr 6 28 = some (0, hX6_sumOf, 5, 3, yX6_sumOf) := rfl
theorem mr_6_32 : ti_mr 6 32 = some (0, hX6_isTrue, 2, 2, yX6_isTrue) := rfl
theorem mr_6_36 : ti_mr 6 36 = some (2, hX11_within, 3, 3, yX11_within) := rfl
theorem mr_6_40 : ti_mr 6 40 = some (0, hX9_open, 2, 2, yX9_open) := rfl
theorem mr_6_46 : ti_mr 6 46 = some (0, hX6_readLine, 3, 3, yX6_readLine) := rfl
theorem mr_6_50 : ti_mr 6 50 = some (0, hX9_passes, 3, 2, yX9_passes) := rfl
theorem mr_6_53 : ti_mr 6 53 = some (0, hX9_refuse, 1, 1, yX9_refuse) := rfl
theorem mr_6_56 : ti_mr 6 56 = some (0, hX9_readNumber, 7, 4, yX9_readNumber) := rfl
theorem mr_6_59 : ti_mr 6 59 = some (0, hX9_require, 2, 2, yX9_require) := rfl
theorem mr_6_62 : ti_mr 6 62 = some (1, hX6_readKnowers, 4, 1, yX6_readKnowers) := rfl
theorem mr_6_66 : ti_mr 6 66 = some (0, hX9_passSeventh, 3, 2, yX9_passSeventh) := rfl
theorem fr_7_9 : ti_fr 7 9 = some (7, 0, 2) := rfl
theorem fr_7_15 : ti_fr 7 15 = some (7, 2, 0) := rfl
theorem fr_7_25 : ti_fr 7 25 = some (7, 1, 0) := rfl
theorem fr_7_28 : ti_fr 7 28 = some (7, 3, 0) := rfl
theorem fr_7_31 : ti_fr 7 31 = some (7, 4, 0) := rfl
theorem fr_7_34 : ti_fr 7 34 = some (7, 5, 0) := rfl
theorem fr_7_37 : ti_fr 7 37 = some (7, 6, 1) := rfl
theorem fr_7_41 : ti_fr 7 41 = some (7, 7, 0) := rfl
theorem fr_7_44 : ti_fr 7 44 = some (10, 2, 0) := rfl
theorem fr_7_59 : ti_fr 7 59 = some (0, 3, 0) := rfl
theorem fr_7_90 : ti_fr 7 90 = some (6, 2, 2) := rfl
theorem mr_7_49 : ti_mr 7 49 = some (0, hX0_forceOf, 9, 4, yX0_forceOf) := rfl
theorem mr_7_55 : ti_mr 7 55 = some (0, hX10_steepAt, 2, 2, yX10_steepAt) := rfl
theorem mr_7_62 : ti_mr 7 62 = some (0, hX7_moveOn, 5, 3, yX7_moveOn) := rfl
theorem mr_7_66 : ti_mr 7 66 = some (2, hX11_within, 3, 3, yX11_within) := rfl
theorem mr_7_70 : ti_mr 7 70 = some (0, hX0_has, 2, 2, yX0_has) := rfl
theorem mr_7_74 : ti_mr 7 74 = some (1, hJ6_bitCount_0f7a4, 1, 1, yJ6_bitCount_0f7a4) := rfl
theorem mr_7_79 : ti_mr 7 79 = some (0, hX6_has, 2, 2, yX6_has) := rfl
theorem mr_7_82 : ti_mr 7 82 = some (0, hX7_hindranceTo, 4, 4, yX7_hindranceTo) := rfl
theorem mr_7_86 : ti_mr 7 86 = some (0, hX6_loadAfter, 3, 3, yX6_loadAfter) := rfl
theorem br_7_19 : ti_br 7 19 = some 3 := rfl
theorem fr_8_9 : ti_fr 8 9 = some (8, 0, 2) := rfl
theorem fr_8_15 : ti_fr 8 15 = some (8, 1, 2) := rfl
theorem fr_8_19 : ti_fr 8 19 = some (8, 2, 2) := rfl
theorem fr_8_23 : ti_fr 8 23 = some (7, 2, 0) := rfl
theorem fr_8_29 : ti_fr 8 29 = some (7, 1, 0) := rfl
theorem fr_8_48 : ti_fr 8 48 = some (8, 3, 0) := rfl
theorem fr_8_51 : ti_fr 8 51 = some (0, 3, 0) := rfl
theorem fr_8_78 : ti_fr 8 78 = some (7, 3, 0) := rfl
theorem fr_8_81 : ti_fr 8 81 = some (0, 2, 2) := rfl
theorem mr_8_32 : ti_mr 8 32 = some (0, hX10_steepAt, 2, 2, yX10_steepAt) := rfl
theorem mr_8_38 : ti_mr 8 38 = some (0, hX8_strongestOf, 7, 4, yX8_strongestOf) := rfl
theorem mr_8_42 : ti_mr 8 42 = some (0, hX4_tell, 3, 2, yX4_tell) := rfl
theorem mr_8_56 : ti_mr 8 56 = some (1, hJ6_bitCount_0f7a4, 1, 1, yJ6_bitCount_0f7a4) := rfl
theorem mr_8_61 : ti_mr 8 61 = some (0, hX0_forceOf, 9, 4, yX0_forceOf) := rfl
theorem mr_8_71 : ti_mr 8 71 = some (0, hX8_neededHere, 2, 2, yX8_neededHere) := rfl
theorem mr_8_75 : ti_mr 8 75 = some (0, hX4_tell_, 5, 3, yX4_tell_) := rfl
theorem mr_8_88 : ti_mr 8 88 = some (0, hX8_waysTo, 6, 4, yX8_waysTo) := rfl
theorem mr_8_92 : ti_mr 8 92 = some (1, hX8_commonDivisor, 6, 2, yX8_commonDivisor) := rfl
theorem br_8_65 : ti_br 8 65 = some 1 := rfl
theorem br_8_85 : ti_br 8 85 = some 2 := rfl
theorem br_8_95 : ti_br 8 95 = some 0 := rfl
theorem fr_9_11 : ti_fr 9 11 = some (9, 0, 2) := rfl
theorem fr_9_15 : ti_fr 9 15 = some (9, 1, 0) := rfl
theorem fr_9_19 : ti_fr 9 19 = some (9, 2, 0) := rfl
theorem fr_9_28 : ti_fr 9 28 = some (9, 3, 0) := rfl
theorem fr_9_31 : ti_fr 9 31 = some (9, 4, 0) := rfl
theorem mr_9_34 : ti_mr 9 34 = some (0, hX9_peek, 1, 1, yX9_peek) := rfl
theorem mr_9_38 : ti_mr 9 38 = some (0, hX9_skip, 1, 1, yX9_skip) := rfl
theorem mr_9_41 : ti_mr 9 41 = some (0, hX9_passes, 3, 2, yX9_passes) := rfl
theorem mr_9_45 : ti_mr 9 45 = some (0, hX9_refuse, 1, 1, yX9_refuse) := rfl
theorem br_9_22 : ti_br 9 22 = some 1 := rfl
theorem fr_10_9 : ti_fr 10 9 = some (10, 0, 2) := rfl
theorem fr_10_15 : ti_fr 10 15 = some (10, 1, 2) := rfl
theorem fr_10_18 : ti_fr 10 18 = some (10, 2, 0) := rfl
theorem mr_10_22 : ti_mr 10 22 = some (0, hX9_open, 2, 2, yX9_open) := rfl
theorem mr_10_28 : ti_mr 10 28 = some (0, hX9_readNumber, 7, 4, yX9_readNumber) := rfl
theorem mr_10_32 : ti_mr 10 32 = some (0, hX9_peek, 1, 1, yX9_peek) := rfl
theorem mr_10_36 : ti_mr 10 36 = some (0, hX9_close, 2, 1, yX9_close) := rfl
theorem mr_10_45 : ti_mr 10 45 = some (1, hX10_entry, 2, 2, yX10_entry) := rfl
theorem mr_10_49 : ti_mr 10 49 = some (2, hX11_within, 3, 3, yX11_within) := rfl
theorem br_10_39 : ti_br 10 39 = some 3 := rfl
theorem fr_11_10 : ti_fr 11 10 = some (11, 0, 2) := rfl
theorem fr_11_19 : ti_fr 11 19 = some (11, 1, 2) := rfl
theorem fr_11_26 : ti_fr 11 26 = some (11, 2, 2) := rfl
theorem fr_11_35 : ti_fr 11 35 = some (11, 3, 2) := rfl
theorem fr_11_42 : ti_fr 11 42 = some (11, 4, 2) := rfl
theorem fr_11_49 : ti_fr 11 49 = some (11, 5, 2) := rfl
theorem fr_11_56 : ti_fr 11 56 = some (11, 6, 2) := rfl
theorem fr_11_65 : ti_fr 11 65 = some (11, 7, 2) := rfl
theorem fr_11_74 : ti_fr 11 74 = some (11, 8, 2) := rfl
theorem fr_11_83 : ti_fr 11 83 = some (11, 9, 2) := rfl
theorem fr_11_87 : ti_fr 11 87 = some (11, 10, 2) := rfl
theorem fr_11_94 : ti_fr 11 94 = some (11, 11, 3) := rfl
theorem fr_11_98 : ti_fr 11 98 = some (11, 12, 3) := rfl
theorem fr_11_113 : ti_fr 11 113 = some (7, 1, 0) := rfl
theorem fr_11_117 : ti_fr 11 117 = some (7, 6, 1) := rfl
theorem fr_11_124 : ti_fr 11 124 = some (10, 2, 0) := rfl
theorem fr_11_137 : ti_fr 11 137 = some (0, 3, 0) := rfl
theorem fr_11_141 : ti_fr 11 141 = some (6, 4, 0) := rfl
theorem fr_11_153 : ti_fr 11 153 = some (0, 1, 2) := rfl
theorem fr_11_156 : ti_fr 11 156 = some (0, 2, 2) := rfl
theorem fr_11_159 : ti_fr 11 159 = some (7, 0, 2) := rfl
theorem fr_11_162 : ti_fr 11 162 = some (7, 3, 0) := rfl
theorem fr_11_174 : ti_fr 11 174 = some (6, 0, 2) := rfl
theorem fr_11_180 : ti_fr 11 180 = some (6, 1, 2) := rfl
theorem fr_11_183 : ti_fr 11 183 = some (6, 2, 2) := rfl
theorem fr_11_186 : ti_fr 11 186 = some (7, 5, 0) := rfl
theorem fr_11_189 : ti_fr 11 189 = some (7, 4, 0) := rfl
theorem fr_11_194 : ti_fr 11 194 = some (7, 2, 0) := rfl
theorem fr_11_231 : ti_fr 11 231 = some (7, 7, 0) := rfl
theorem fr_11_325 : ti_fr 11 325 = some (6, 3, 0) := rfl
theorem fr_11_403 : ti_fr 11 403 = some (1, 4, 0) := rfl
theorem fr_11_406 : ti_fr 11 406 = some (1, 8, 0) := rfl
theorem fr_11_409 : ti_fr 11 409 = some (2, 5, 0) := rfl
theorem mr_11_101 : ti_mr 11 101 = some (0, hX9_append, 3, 2, yX9_append) := rfl
theorem mr_11_105 : ti_mr 11 105 = some (0, hX9_shorten, 2, 2, yX9_shorten) := rfl
theorem mr_11_109 : ti_mr 11 109 = some (0, hX10_read, 4, 2, yX10_read) := rfl
theorem mr_11_121 : ti_mr 11 121 = some (0, hX2_forgetAll, 1, 1, yX2_forgetAll) := rfl
theorem mr_11_127 : ti_mr 11 127 = some (0, hX9_size, 1, 1, yX9_size) := rfl
theorem mr_11_131 : ti_mr 11 131 = some (0, hX0_readLines, 3, 2, yX0_readLines) := rfl
theorem mr_11_134 : ti_mr 11 134 = some (0, hX9_close, 2, 1, yX9_close) := rfl
theorem mr_11_140 : ti_mr 11 140 = some (0, hX6_readLines, 3, 2, yX6_readLines) := rfl
theorem mr_11_142 : ti_mr 11 142 = some (0, hX5_read, 2, 2, yX5_read) := rfl
theorem mr_11_143 : ti_mr 11 143 = some (0, hX0_has, 2, 2, yX0_has) := rfl
theorem mr_11_165 : ti_mr 11 165 = some (0, hX0_worth, 6, 6, yX0_worth) := rfl
theorem mr_11_171 : ti_mr 11 171 = some (0, hX6_has, 2, 2, yX6_has) := rfl
theorem mr_11_177 : ti_mr 11 177 = some (0, hX6_isTrue, 2, 2, yX6_isTrue) := rfl
theorem mr_11_197 : ti_mr 11 197 = some (0, hX10_steepAt, 2, 2, yX10_steepAt) := rfl
theorem mr_11_200 : ti_mr 11 200 = some (1, hJ6_bitCount_0f7a4, 1, 1, yJ6_bitCount_0f7a4) := rfl
theorem mr_11_205 : ti_mr 11 205 = some (0, hX4_tell_, 5, 3, yX4_tell_) := rfl
theorem mr_11_209 : ti_mr 11 209 = some (0, hX0_forceOf, 9, 4, yX0_forceOf) := rfl
theorem mr_11_213 : ti_mr 11 213 = some (0, hX10_copySheet, 6, 5, yX10_copySheet) := rfl
theorem mr_11_217 : ti_mr 11 217 = some (0, hX10_steepInAll, 3, 1, yX10_steepInAll) := rfl
theorem mr_11_220 : ti_mr 11 220 = some (0, hX2_mark, 2, 2, yX2_mark) := rfl
theorem mr_11_224 : ti_mr 11 224 = some (0, hX7_advance, 5, 4, yX7_advance) := rfl
theorem mr_11_228 : ti_mr 11 228 = some (0, hX2_settle, 2, 2, yX2_settle) := rfl
theorem mr_11_234 : ti_mr 11 234 = some (0, hX7_takeHold, 3, 3, yX7_takeHold) := rfl
theorem mr_11_238 : ti_mr 11 238 = some (0, hX7_letGo, 3, 3, yX7_letGo) := rfl
theorem mr_11_241 : ti_mr 11 241 = some (0, hX7_follow, 3, 2, yX7_follow) := rfl
theorem mr_11_244 : ti_mr 11 244 = some (0, hX7_speak, 5, 4, yX7_speak) := rfl
theorem mr_11_248 : ti_mr 11 248 = some (0, hX11_readActs, 2, 1, yX11_readActs) := rfl
theorem mr_11_251 : ti_mr 11 251 = some (0, hX11_perform, 3, 2, yX11_perform) := rfl
theorem mr_11_254 : ti_mr 11 254 = some (0, hX9_open, 2, 2, yX9_open) := rfl
theorem mr_11_258 : ti_mr 11 258 = some (0, hX9_peek, 1, 1, yX9_peek) := rfl
theorem mr_11_261 : ti_mr 11 261 = some (0, hX11_readAct, 3, 1, yX11_readAct) := rfl
theorem mr_11_264 : ti_mr 11 264 = some (0, hX9_skip, 1, 1, yX9_skip) := rfl
theorem mr_11_267 : ti_mr 11 267 = some (0, hX9_readNumber, 7, 4, yX9_readNumber) := rfl
theorem mr_11_271 : ti_mr 11 271 = some (0, hX9_passSeventh, 3, 2, yX9_passSeventh) := rfl
theorem mr_11_274 : ti_mr 11 274 = some (0, hX9_refuse, 1, 1, yX9_refuse) := rfl
theorem mr_11_277 : ti_mr 11 277 = some (0, hX2_bringBack, 2, 2, yX2_bringBack) := rfl
theorem mr_11_281 : ti_mr 11 281 = some (0, hX3_staggersAhead, 6, 4, yX3_staggersAhead) := rfl
theorem mr_11_285 : ti_mr 11 285 = some (0, hX3_firstStagger, 4, 3, yX3_firstStagger) := rfl
theorem mr_11_289 : ti_mr 11 289 = some (0, hX3_mostLoad, 3, 3, yX3_mostLoad) := rfl
theorem mr_11_292 : ti_mr 11 292 = some (0, hX3_fewestSayings, 5, 3, yX3_fewestSayings) := rfl
theorem mr_11_295 : ti_mr 11 295 = some (0, hX3_bestSeventh, 7, 3, yX3_bestSeventh) := rfl
theorem mr_11_298 : ti_mr 11 298 = some (0, hX3_sayable, 7, 2, yX3_sayable) := rfl
theorem mr_11_301 : ti_mr 11 301 = some (0, hX8_strongest, 4, 4, yX8_strongest) := rfl
theorem mr_11_304 : ti_mr 11 304 = some (0, hX8_smallest, 6, 3, yX8_smallest) := rfl
theorem mr_11_307 : ti_mr 11 307 = some (0, hX8_bestChange, 7, 3, yX8_bestChange) := rfl
theorem mr_11_310 : ti_mr 11 310 = some (0, hX8_needed, 5, 3, yX8_needed) := rfl
theorem mr_11_313 : ti_mr 11 313 = some (0, hX4_tell, 3, 2, yX4_tell) := rfl
theorem mr_11_316 : ti_mr 11 316 = some (0, hX8_mostUneven, 6, 2, yX8_mostUneven) := rfl
theorem mr_11_319 : ti_mr 11 319 = some (0, hX6_holds, 2, 2, yX6_holds) := rfl
theorem mr_11_322 : ti_mr 11 322 = some (0, hX1_fewestKnowers, 4, 2, yX1_fewestKnowers) := rfl
theorem mr_11_328 : ti_mr 11 328 = some (0, hX6_knownTo, 4, 2, yX6_knownTo) := rfl
theorem mr_11_331 : ti_mr 11 331 = some (0, hX6_weightOf, 2, 2, yX6_weightOf) := rfl
theorem mr_11_334 : ti_mr 11 334 = some (0, hX1_knownToJust, 4, 2, yX1_knownToJust) := rfl
theorem mr_11_337 : ti_mr 11 337 = some (0, hX1_mostLightening, 9, 2, yX1_mostLightening) := rfl
theorem mr_11_340 : ti_mr 11 340 = some (0, hX1_addOldWalk, 3, 3, yX1_addOldWalk) := rfl
theorem mr_11_344 : ti_mr 11 344 = some (0, hX1_forgetOldWalks, 2, 1, yX1_forgetOldWalks) := rfl
theorem mr_11_347 : ti_mr 11 347 = some (0, hX1_countWorlds, 1, 1, yX1_countWorlds) := rfl
theorem mr_11_350 : ti_mr 11 350 = some (0, hX1_trueInAll, 1, 1, yX1_trueInAll) := rfl
theorem mr_11_353 : ti_mr 11 353 = some (0, hX1_bestQuestion, 5, 1, yX1_bestQuestion) := rfl
theorem mr_11_364 : ti_mr 11 364 = some (0, hX1_leastHarm, 7, 3, yX1_leastHarm) := rfl
theorem mr_11_367 : ti_mr 11 367 = some (0, hX1_addClaim, 4, 4, yX1_addClaim) := rfl
theorem mr_11_370 : ti_mr 11 370 = some (0, hX1_takeClaimsBack, 2, 1, yX1_takeClaimsBack) := rfl
theorem mr_11_373 : ti_mr 11 373 = some (0, hX1_fewestDisbelieved, 3, 1, yX1_fewestDisbelieved) := rfl
theorem mr_11_376 : ti_mr 11 376 = some (0, hX8_chanceToStand, 7, 4, yX8_chanceToStand) := rfl
theorem mr_11_379 : ti_mr 11 379 = some (0, hX4_clear, 1, 1, yX4_clear) := rfl
theorem mr_11_382 : ti_mr 11 382 = some (1, hX11_isBestBid, 5, 3, yX11_isBestBid) := rfl
theorem mr_11_386 : ti_mr 11 386 = some (1, hX11_bidGets, 3, 3, yX11_bidGets) := rfl
theorem mr_11_389 : ti_mr 11 389 = some (1, hX11_cornerOrTwelve, 1, 1, yX11_cornerOrTwelve) := rfl
theorem mr_11_392 : ti_mr 11 392 = some (0, hX3_staggersDrawn, 6, 5, yX3_staggersDrawn) := rfl
theorem mr_11_396 : ti_mr 11 396 = some (0, hX2_keepUnder, 3, 3, yX2_keepUnder) := rfl
theorem mr_11_400 : ti_mr 11 400 = some (0, hX2_bringBackKept, 3, 3, yX2_bringBackKept) := rfl
theorem mr_11_410 : ti_mr 11 410 = some (0, hX4_size, 1, 1, yX4_size) := rfl
theorem mr_11_413 : ti_mr 11 413 = some (0, hX4_at, 2, 2, yX4_at) := rfl
theorem br_11_356 : ti_br 11 356 = some 1 := rfl
theorem br_11_361 : ti_br 11 361 = some 0 := rfl
theorem fr_12_9 : ti_fr 12 9 = some (12, 0, 2) := rfl
theorem fr_12_13 : ti_fr 12 13 = some (12, 1, 0) := rfl
theorem fr_12_17 : ti_fr 12 17 = some (12, 2, 2) := rfl
theorem fr_12_20 : ti_fr 12 20 = some (12, 4, 2) := rfl
theorem fr_12_23 : ti_fr 12 23 = some (12, 5, 2) := rfl
theorem fr_12_26 : ti_fr 12 26 = some (12, 7, 2) := rfl
theorem fr_12_29 : ti_fr 12 29 = some (12, 8, 2) := rfl
theorem fr_12_33 : ti_fr 12 33 = some (12, 10, 2) := rfl
theorem fr_12_37 : ti_fr 12 37 = some (12, 18, 2) := rfl
theorem fr_12_40 : ti_fr 12 40 = some (12, 19, 3) := rfl
theorem fr_12_43 : ti_fr 12 43 = some (12, 20, 3) := rfl
theorem fr_12_46 : ti_fr 12 46 = some (12, 23, 2) := rfl
theorem fr_12_49 : ti_fr 12 49 = some (12, 24, 2) := rfl
theorem fr_12_52 : ti_fr 12 52 = some (12, 26, 2) := rfl
theorem fr_12_55 : ti_fr 12 55 = some (12, 27, 2) := rfl
theorem fr_12_58 : ti_fr 12 58 = some (12, 28, 2) := rfl
theorem fr_12_61 : ti_fr 12 61 = some (12, 29, 2) := rfl
theorem fr_12_64 : ti_fr 12 64 = some (12, 30, 2) := rfl
theorem fr_12_67 : ti_fr 12 67 = some (12, 31, 2) := rfl
theorem fr_12_70 : ti_fr 12 70 = some (12, 32, 2) := rfl
theorem fr_12_73 : ti_fr 12 73 = some (12, 34, 2) := rfl
theorem fr_12_76 : ti_fr 12 76 = some (12, 36, 2) := rfl
theorem fr_12_79 : ti_fr 12 79 = some (12, 40, 2) := rfl
theorem fr_12_82 : ti_fr 12 82 = some (12, 41, 2) := rfl
theorem fr_12_86 : ti_fr 12 86 = some (12, 42, 2) := rfl
theorem fr_12_89 : ti_fr 12 89 = some (12, 12, 0) := rfl
theorem fr_12_92 : ti_fr 12 92 = some (12, 11, 0) := rfl
theorem fr_12_95 : ti_fr 12 95 = some (12, 3, 0) := rfl
theorem fr_12_102 : ti_fr 12 102 = some (12, 6, 0) := rfl
theorem fr_12_105 : ti_fr 12 105 = some (12, 9, 0) := rfl
theorem fr_12_108 : ti_fr 12 108 = some (12, 13, 3) := rfl
theorem fr_12_111 : ti_fr 12 111 = some (12, 14, 0) := rfl
theorem fr_12_114 : ti_fr 12 114 = some (12, 15, 0) := rfl
theorem fr_12_117 : ti_fr 12 117 = some (12, 16, 0) := rfl
theorem fr_12_120 : ti_fr 12 120 = some (12, 17, 0) := rfl
theorem fr_12_147 : ti_fr 12 147 = some (12, 25, 0) := rfl
theorem fr_12_150 : ti_fr 12 150 = some (12, 39, 0) := rfl
theorem fr_12_191 : ti_fr 12 191 = some (12, 22, 1) := rfl
theorem fr_12_198 : ti_fr 12 198 = some (12, 21, 0) := rfl
theorem fr_12_346 : ti_fr 12 346 = some (12, 33, 0) := rfl
theorem fr_12_355 : ti_fr 12 355 = some (12, 35, 0) := rfl
theorem fr_12_362 : ti_fr 12 362 = some (12, 37, 0) := rfl
theorem fr_12_385 : ti_fr 12 385 = some (12, 38, 0) := rfl
theorem mr_12_98 : ti_mr 12 98 = some (1, hX12_in, 3, 3, yX12_in) := rfl
theorem mr_12_123 : ti_mr 12 123 = some (0, hX12_begin, 4, 4, yX12_begin) := rfl
theorem mr_12_127 : ti_mr 12 127 = some (0, hX12_fine, 1, 1, yX12_fine) := rfl
theorem mr_12_131 : ti_mr 12 131 = some (0, hX12_here, 1, 1, yX12_here) := rfl
theorem mr_12_135 : ti_mr 12 135 = some (0, hX12_passes, 2, 2, yX12_passes) := rfl
theorem mr_12_139 : ti_mr 12 139 = some (0, hX12_fault, 2, 2, yX12_fault) := rfl
theorem mr_12_143 : ti_mr 12 143 = some (0, hX12_oneOf, 3, 3, yX12_oneOf) := rfl
theorem mr_12_153 : ti_mr 12 153 = some (0, hX12_beginText, 2, 2, yX12_beginText) := rfl
theorem mr_12_156 : ti_mr 12 156 = some (0, hX12_wasRight, 1, 1, yX12_wasRight) := rfl
theorem mr_12_159 : ti_mr 12 159 = some (0, hX12_told, 1, 1, yX12_told) := rfl
theorem mr_12_162 : ti_mr 12 162 = some (0, hX12_number, 4, 2, yX12_number) := rfl
theorem mr_12_166 : ti_mr 12 166 = some (0, hX12_bounded, 3, 2, yX12_bounded) := rfl
theorem mr_12_169 : ti_mr 12 169 = some (0, hX12_need, 2, 2, yX12_need) := rfl
theorem mr_12_173 : ti_mr 12 173 = some (0, hX12_readSaying, 4, 2, yX12_readSaying) := rfl
theorem mr_12_176 : ti_mr 12 176 = some (0, hX12_sum, 5, 2, yX12_sum) := rfl
theorem mr_12_179 : ti_mr 12 179 = some (0, hX12_product, 5, 2, yX12_product) := rfl
theorem mr_12_182 : ti_mr 12 182 = some (0, hX12_thing, 4, 2, yX12_thing) := rfl
theorem mr_12_185 : ti_mr 12 185 = some (0, hX12_held, 3, 2, yX12_held) := rfl
theorem mr_12_188 : ti_mr 12 188 = some (1, hX12_letterOf, 1, 1, yX12_letterOf) := rfl
theorem mr_12_195 : ti_mr 12 195 = some (0, hX12_readRule, 1, 1, yX12_readRule) := rfl
theorem mr_12_201 : ti_mr 12 201 = some (1, hX12_has, 2, 2, yX12_has) := rfl
theorem mr_12_211 : ti_mr 12 211 = some (0, hX12_tallest, 4, 2, yX12_tallest) := rfl
theorem mr_12_214 : ti_mr 12 214 = some (1, hJ6_bitCount_0f7a4, 1, 1, yJ6_bitCount_0f7a4) := rfl
theorem mr_12_219 : ti_mr 12 219 = some (0, hX12_steepOf, 2, 2, yX12_steepOf) := rfl
theorem mr_12_226 : ti_mr 12 226 = some (0, hX12_bearsOf, 6, 4, yX12_bearsOf) := rfl
theorem mr_12_230 : ti_mr 12 230 = some (0, hX12_forceOf, 5, 3, yX12_forceOf) := rfl
theorem mr_12_234 : ti_mr 12 234 = some (0, hX12_needed, 2, 2, yX12_needed) := rfl
theorem mr_12_237 : ti_mr 12 237 = some (0, hX12_isMan, 2, 2, yX12_isMan) := rfl
theorem mr_12_241 : ti_mr 12 241 = some (0, hX12_lost, 1, 1, yX12_lost) := rfl
theorem mr_12_244 : ti_mr 12 244 = some (0, hX12_carry, 4, 2, yX12_carry) := rfl
theorem mr_12_247 : ti_mr 12 247 = some (0, hX12_isSaying, 2, 2, yX12_isSaying) := rfl
theorem mr_12_250 : ti_mr 12 250 = some (0, hX12_doesKnow, 3, 3, yX12_doesKnow) := rfl
theorem mr_12_253 : ti_mr 12 253 = some (0, hX12_tell, 3, 2, yX12_tell) := rfl
theorem mr_12_257 : ti_mr 12 257 = some (1, hX12_lay, 4, 3, yX12_lay) := rfl
theorem mr_12_261 : ti_mr 12 261 = some (0, hX12_isOnHill, 2, 2, yX12_isOnHill) := rfl
theorem mr_12_265 : ti_mr 12 265 = some (0, hX12_isFirm, 3, 3, yX12_isFirm) := rfl
theorem mr_12_269 : ti_mr 12 269 = some (0, hX12_refusesStep, 2, 2, yX12_refusesStep) := rfl
theorem mr_12_272 : ti_mr 12 272 = some (0, hX12_remember, 3, 2, yX12_remember) := rfl
theorem mr_12_276 : ti_mr 12 276 = some (0, hX12_goStep, 4, 2, yX12_goStep) := rfl
theorem mr_12_279 : ti_mr 12 279 = some (0, hX12_refusesTake, 3, 3, yX12_refusesTake) := rfl
theorem mr_12_282 : ti_mr 12 282 = some (0, hX12_refusesLeave, 2, 2, yX12_refusesLeave) := rfl
theorem mr_12_285 : ti_mr 12 285 = some (1, hX12_isSeventh, 1, 1, yX12_isSeventh) := rfl
theorem mr_12_288 : ti_mr 12 288 = some (0, hX12_refusesSeventh, 2, 2, yX12_refusesSeventh) := rfl
theorem mr_12_291 : ti_mr 12 291 = some (0, hX12_isTrue, 2, 2, yX12_isTrue) := rfl
theorem mr_12_294 : ti_mr 12 294 = some (0, hX12_heavy, 2, 2, yX12_heavy) := rfl
theorem mr_12_297 : ti_mr 12 297 = some (0, hX12_loadBy, 3, 3, yX12_loadBy) := rfl
theorem mr_12_300 : ti_mr 12 300 = some (0, hX12_refusesSay, 3, 3, yX12_refusesSay) := rfl
theorem mr_12_303 : ti_mr 12 303 = some (0, hX12_goSay, 3, 3, yX12_goSay) := rfl
theorem mr_12_307 : ti_mr 12 307 = some (0, hX12_readAct, 3, 2, yX12_readAct) := rfl
theorem mr_12_310 : ti_mr 12 310 = some (0, hX12_act, 3, 3, yX12_act) := rfl
theorem mr_12_313 : ti_mr 12 313 = some (0, hX12_firstOf, 1, 1, yX12_firstOf) := rfl
theorem mr_12_316 : ti_mr 12 316 = some (0, hX12_goHush, 9, 7, yX12_goHush) := rfl
theorem mr_12_320 : ti_mr 12 320 = some (0, hX12_layRoom, 1, 1, yX12_layRoom) := rfl
theorem mr_12_323 : ti_mr 12 323 = some (0, hX12_saidBits, 3, 1, yX12_saidBits) := rfl
theorem mr_12_326 : ti_mr 12 326 = some (0, hX12_hushOf, 3, 2, yX12_hushOf) := rfl
theorem mr_12_333 : ti_mr 12 333 = some (0, hX12_areSayings, 2, 2, yX12_areSayings) := rfl
theorem mr_12_336 : ti_mr 12 336 = some (0, hX12_doCover, 4, 3, yX12_doCover) := rfl
theorem mr_12_339 : ti_mr 12 339 = some (0, hX12_knownBy, 5, 3, yX12_knownBy) := rfl
theorem mr_12_343 : ti_mr 12 343 = some (0, hX12_heavyOf, 4, 2, yX12_heavyOf) := rfl
theorem mr_12_349 : ti_mr 12 349 = some (0, hX12_isWorld, 3, 2, yX12_isWorld) := rfl
theorem mr_12_352 : ti_mr 12 352 = some (0, hX12_worldsIf, 5, 3, yX12_worldsIf) := rfl
theorem mr_12_358 : ti_mr 12 358 = some (0, hX12_goWidow, 6, 5, yX12_goWidow) := rfl
theorem mr_12_365 : ti_mr 12 365 = some (0, hX12_doAgree, 4, 2, yX12_doAgree) := rfl
theorem mr_12_368 : ti_mr 12 368 = some (1, hX12_common, 4, 2, yX12_common) := rfl
theorem mr_12_372 : ti_mr 12 372 = some (1, hX12_power, 6, 2, yX12_power) := rfl
theorem mr_12_378 : ti_mr 12 378 = some (1, hX12_gets, 3, 3, yX12_gets) := rfl
theorem mr_12_382 : ti_mr 12 382 = some (1, hX12_isBest, 4, 3, yX12_isBest) := rfl
theorem mr_12_389 : ti_mr 12 389 = some (0, hX12_draw, 2, 2, yX12_draw) := rfl
theorem br_12_205 : ti_br 12 205 = some 0 := rfl
theorem br_12_223 : ti_br 12 223 = some 1 := rfl
theorem br_12_330 : ti_br 12 330 = some 2 := rfl
set_option maxRecDepth 100000 in
theorem ti_uw_0 : ∀ w ∈ u_ws RX0 TX0 4, w ∈ ti_T := by decide +kernel
theorem ti_kok_0 : ti_KOK (RX0, TX0, 4) := ⟨ti_uw_0, ⟨tyX0, tyX0_ok⟩, nmX0⟩
set_option maxRecDepth 100000 in
theorem ti_uw_1 : ∀ w ∈ u_ws RX1 TX1 14, w ∈ ti_T := by decide +kernel
theorem ti_kok_1 : ti_KOK (RX1, TX1, 14) := ⟨ti_uw_1, ⟨tyX1, tyX1_ok⟩, nmX1⟩
set_option maxRecDepth 100000 in
theorem ti_uw_2 : ∀ w ∈ u_ws RX2 TX2 6, w ∈ ti_T := by decide +kernel
theorem ti_kok_2 : ti_KOK (RX2, TX2, 6) := ⟨ti_uw_2, ⟨tyX2, tyX2_ok⟩, nmX2⟩
set_option maxRecDepth 100000 in
theorem ti_uw_3 : ∀ w ∈ u_ws RX3 TX3 9, w ∈ ti_T := by decide +kernel
theorem ti_kok_3 : ti_KOK (RX3, TX3, 9) := ⟨ti_uw_3, ⟨tyX3, tyX3_ok⟩, nmX3⟩
set_option maxRecDepth 100000 in
theorem ti_uw_4 : ∀ w ∈ u_ws RX4 TX4 2, w ∈ ti_T := by decide +kernel
theorem ti_kok_4 : ti_KOK (RX4, TX4, 2) := ⟨ti_uw_4, ⟨tyX4, tyX4_ok⟩, nmX4⟩
set_option maxRecDepth 100000 in
theorem ti_uw_5 : ∀ w ∈ u_ws RX5 TX5 4, w ∈ ti_T := by decide +kernel
theorem ti_kok_5 : ti_KOK (RX5, TX5, 4) := ⟨ti_uw_5, ⟨tyX5, tyX5_ok⟩, nmX5⟩
set_option maxRecDepth 100000 in
theorem ti_uw_6 : ∀ w ∈ u_ws RX6 TX6 5, w ∈ ti_T := by decide +kernel
theorem ti_kok_6 : ti_KOK (RX6, TX6, 5) := ⟨ti_uw_6, ⟨tyX6, tyX6_ok⟩, nmX6⟩
set_option maxRecDepth 100000 in
theorem ti_uw_7 : ∀ w ∈ u_ws RX7 TX7 8, w ∈ ti_T := by decide +kernel
theorem ti_kok_7 : ti_KOK (RX7, TX7, 8) := ⟨ti_uw_7, ⟨tyX7, tyX7_ok⟩, nmX7⟩
set_option maxRecDepth 100000 in
theorem ti_uw_8 : ∀ w ∈ u_ws RX8 TX8 4, w ∈ ti_T := by decide +kernel
theorem ti_kok_8 : ti_KOK (RX8, TX8, 4) := ⟨ti_uw_8, ⟨tyX8, tyX8_ok⟩, nmX8⟩
set_option maxRecDepth 100000 in
theorem ti_uw_9 : ∀ w ∈ u_ws RX9 TX9 5, w ∈ ti_T := by decide +kernel
theorem ti_kok_9 : ti_KOK (RX9, TX9, 5) := ⟨ti_uw_9, ⟨tyX9, tyX9_ok⟩, nmX9⟩
set_option maxRecDepth 100000 in
theorem ti_uw_10 : ∀ w ∈ u_ws RX10 TX10 3, w ∈ ti_T := by decide +kernel
theorem ti_kok_10 : ti_KOK (RX10, TX10, 3) := ⟨ti_uw_10, ⟨tyX10, tyX10_ok⟩, nmX10⟩
set_option maxRecDepth 100000 in
theorem ti_uw_11 : ∀ w ∈ u_ws RX11 TX11 13, w ∈ ti_T := by decide +kernel
theorem ti_kok_11 : ti_KOK (RX11, TX11, 13) := ⟨ti_uw_11, ⟨tyX11, tyX11_ok⟩, nmX11⟩
set_option maxRecDepth 100000 in
theorem ti_uw_12 : ∀ w ∈ u_ws RX12 TX12 43, w ∈ ti_T := by decide +kernel
theorem ti_kok_12 : ti_KOK (RX12, TX12, 43) := ⟨ti_uw_12, ⟨tyX12, tyX12_ok⟩, nmX12⟩
theorem ti_kok {ci : Nat} {q : vw_C} (h : vwCl[ci]? = some q) : ti_KOK q := by
  match ci, h with
  | 0, h => cases h; exact ti_kok_0
  | 1, h => cases h; exact ti_kok_1
  | 2, h => cases h; exact ti_kok_2
  | 3, h => cases h; exact ti_kok_3
  | 4, h => cases h; exact ti_kok_4
  | 5, h => cases h; exact ti_kok_5
  | 6, h => cases h; exact ti_kok_6
  | 7, h => cases h; exact ti_kok_7
  | 8, h => cases h; exact ti_kok_8
  | 9, h => cases h; exact ti_kok_9
  | 10, h => cases h; exact ti_kok_10
  | 11, h => cases h; exact ti_kok_11
  | 12, h => cases h; exact ti_kok_12
  | n + 13, h => simp [vwCl] at h
theorem ti_f_0_9 : ti_FOK 0 9 0 1 2 := ⟨RX0, TX0, 4, rfl, by decide, rfl, Or.inl (ti_in 184 (by decide +kernel) (by decide +kernel)), fun h => absurd h (by decide), fun h => absurd h (by decide), fun h => absurd h (by decide)⟩
theorem ti_f_0_15 : ti_FOK 0 15 0 2 2 := ⟨RX0, TX0, 4, rfl, by decide, rfl, Or.inl (ti_in 186 (by decide +kernel) (by decide +kernel)), fun h => absurd h (by decide), fun h => absurd h (by decide), fun h => absurd h (by decide)⟩
theorem ti_f_0_18 : ti_FOK 0 18 0 0 2 := ⟨RX0, TX0, 4, rfl, by decide, rfl, Or.inl (ti_in 183 (by decide +kernel) (by decide +kernel)), fun h => absurd h (by decide), fun h => absurd h (by decide), fun h => absurd h (by decide)⟩
theorem ti_f_0_22 : ti_FOK 0 22 0 3 0 := ⟨RX0, TX0, 4, rfl, by decide, rfl, Or.inl (ti_in 189 (by decide +kernel) (by decide +kernel)), fun _ => ⟨rfl, by decide +kernel⟩, fun h => absurd h (by decide), fun h => absurd h (by decide)⟩
theorem ti_f_0_59 : ti_FOK 0 59 7 1 0 := ⟨RX7, TX7, 8, rfl, by decide, rfl, Or.inr ⟨"SixToCarry", ti_inN 250 (by decide +kernel) (by decide +kernel)⟩, fun _ => ⟨rfl, by decide +kernel⟩, fun h => absurd h (by decide), fun h => absurd h (by decide)⟩
theorem ti_f_0_69 : ti_FOK 0 69 7 0 2 := ⟨RX7, TX7, 8, rfl, by decide, rfl, Or.inr ⟨"SixToCarry", ti_inN 244 (by decide +kernel) (by decide +kernel)⟩, fun h => absurd h (by decide), fun h => absurd h (by decide), fun h => absurd h (by decide)⟩
theorem ti_fok_0 : ∀ e ∈ ti_fr_0, ti_FOK 0 e.1 e.2.1 e.2.2.1 e.2.2.2 := List.forall_mem_cons.mpr ⟨ti_f_0_9, List.forall_mem_cons.mpr ⟨ti_f_0_15, List.forall_mem_cons.mpr ⟨ti_f_0_18, List.forall_mem_cons.mpr ⟨ti_f_0_22, List.forall_mem_cons.mpr ⟨ti_f_0_59, List.forall_mem_cons.mpr ⟨ti_f_0_69, fun _ h => absurd h List.not_mem_nil⟩⟩⟩⟩⟩⟩
set_option maxRecDepth 100000 in
theorem ti_m_0_26 : ti_MOK 0 26 (0, hX9_open, 2, 2, yX9_open) := ⟨ti_in 509 (by decide +kernel) (by decide +kernel), ti_in 88 (by decide +kernel) (by decide +kernel), by decide, rfl, ⟨by decide +kernel, by decide +kernel⟩, by decide, Or.inl ⟨rfl, ti_in 553 (by decide +kernel) (by decide +kernel), ti_in 507 (by decide +kernel) (by decide +kernel), ti_in 508 (by decide +kernel) (by decide +kernel), ⟨TX9, 5, rfl⟩, 1, rfl, by decide +kernel⟩⟩
set_option maxRecDepth 100000 in
theorem ti_m_0_32 : ti_MOK 0 32 (0, hX0_readLine, 3, 3, yX0_readLine) := ⟨ti_in 557 (by decide +kernel) (by decide +kernel), ti_in 91 (by decide +kernel) (by decide +kernel), by decide, rfl, ⟨by decide +kernel, by decide +kernel⟩, by decide, Or.inl ⟨rfl, ti_in 554 (by decide +kernel) (by decide +kernel), ti_in 556 (by decide +kernel) (by decide +kernel), ti_in 0 (by decide +kernel) (by decide +kernel), ⟨TX0, 4, rfl⟩, 2, rfl, by decide +kernel⟩⟩
set_option maxRecDepth 100000 in
theorem ti_m_0_36 : ti_MOK 0 36 (0, hX9_passes, 3, 2, yX9_passes) := ⟨ti_in 567 (by decide +kernel) (by decide +kernel), ti_in 88 (by decide +kernel) (by decide +kernel), by decide, rfl, ⟨by decide +kernel, by decide +kernel⟩, by decide, Or.inl ⟨rfl, ti_in 568 (by decide +kernel) (by decide +kernel), ti_in 565 (by decide +kernel) (by decide +kernel), ti_in 566 (by decide +kernel) (by decide +kernel), ⟨TX9, 5, rfl⟩, 1, rfl, by decide +kernel⟩⟩
set_option maxRecDepth 100000 in
theorem ti_m_0_40 : ti_MOK 0 40 (0, hX9_refuse, 1, 1, yX9_refuse) := ⟨ti_in 528 (by decide +kernel) (by decide +kernel), ti_in 88 (by decide +kernel) (by decide +kernel), by decide, rfl, ⟨by decide +kernel, by decide +kernel⟩, by decide, Or.inl ⟨rfl, ti_in 558 (by decide +kernel) (by decide +kernel), ti_in 526 (by decide +kernel) (by decide +kernel), ti_in 527 (by decide +kernel) (by decide +kernel), ⟨TX9, 5, rfl⟩, 0, rfl, by decide +kernel⟩⟩
set_option maxRecDepth 100000 in
theorem ti_m_0_43 : ti_MOK 0 43 (0, hX9_readNumber, 7, 4, yX9_readNumber) := ⟨ti_in 516 (by decide +kernel) (by decide +kernel), ti_in 88 (by decide +kernel) (by decide +kernel), by decide, rfl, ⟨by decide +kernel, by decide +kernel⟩, by decide, Or.inl ⟨rfl, ti_in 559 (by decide +kernel) (by decide +kernel), ti_in 514 (by decide +kernel) (by decide +kernel), ti_in 515 (by decide +kernel) (by decide +kernel), ⟨TX9, 5, rfl⟩, 3, rfl, by decide +kernel⟩⟩
set_option maxRecDepth 100000 in
theorem ti_m_0_47 : ti_MOK 0 47 (0, hX9_require, 2, 2, yX9_require) := ⟨ti_in 563 (by decide +kernel) (by decide +kernel), ti_in 88 (by decide +kernel) (by decide +kernel), by decide, rfl, ⟨by decide +kernel, by decide +kernel⟩, by decide, Or.inl ⟨rfl, ti_in 560 (by decide +kernel) (by decide +kernel), ti_in 561 (by decide +kernel) (by decide +kernel), ti_in 562 (by decide +kernel) (by decide +kernel), ⟨TX9, 5, rfl⟩, 1, rfl, by decide +kernel⟩⟩
set_option maxRecDepth 100000 in
theorem ti_m_0_50 : ti_MOK 0 50 (0, hX0_tallestOf, 4, 2, yX0_tallestOf) := ⟨ti_in 753 (by decide +kernel) (by decide +kernel), ti_in 91 (by decide +kernel) (by decide +kernel), by decide, rfl, ⟨by decide +kernel, by decide +kernel⟩, by decide, Or.inl ⟨rfl, ti_in 750 (by decide +kernel) (by decide +kernel), ti_in 752 (by decide +kernel) (by decide +kernel), ti_in 6 (by decide +kernel) (by decide +kernel), ⟨TX0, 4, rfl⟩, 1, rfl, by decide +kernel⟩⟩
set_option maxRecDepth 100000 in
theorem ti_m_0_54 : ti_MOK 0 54 (1, hJ6_bitCount_0f7a4, 1, 1, yJ6_bitCount_0f7a4) := ⟨ti_in 726 (by decide +kernel) (by decide +kernel), ti_in 111 (by decide +kernel) (by decide +kernel), by decide, rfl, ⟨by decide +kernel, by decide +kernel⟩, by decide, Or.inr (Or.inl ⟨rfl, ti_in 754 (by decide +kernel) (by decide +kernel), ti_in 725 (by decide +kernel) (by decide +kernel), by decide +kernel⟩)⟩
set_option maxRecDepth 100000 in
theorem ti_m_0_64 : ti_MOK 0 64 (0, hX10_steepAt, 2, 2, yX10_steepAt) := ⟨ti_in 723 (by decide +kernel) (by decide +kernel), ti_in 90 (by decide +kernel) (by decide +kernel), by decide, rfl, ⟨by decide +kernel, by decide +kernel⟩, by decide, Or.inl ⟨rfl, ti_in 755 (by decide +kernel) (by decide +kernel), ti_in 721 (by decide +kernel) (by decide +kernel), ti_in 722 (by decide +kernel) (by decide +kernel), ⟨TX10, 3, rfl⟩, 1, rfl, by decide +kernel⟩⟩
set_option maxRecDepth 100000 in
theorem ti_m_0_72 : ti_MOK 0 72 (0, hX5_tell, 8, 8, yX5_tell) := ⟨ti_in 759 (by decide +kernel) (by decide +kernel), ti_in 98 (by decide +kernel) (by decide +kernel), by decide, rfl, ⟨by decide +kernel, by decide +kernel⟩, by decide, Or.inl ⟨rfl, ti_in 756 (by decide +kernel) (by decide +kernel), ti_in 757 (by decide +kernel) (by decide +kernel), ti_in 758 (by decide +kernel) (by decide +kernel), ⟨TX5, 4, rfl⟩, 7, rfl, by decide +kernel⟩⟩
theorem ti_mok_0 : ∀ e ∈ ti_mr_0, ti_MOK 0 e.1 e.2 := List.forall_mem_cons.mpr ⟨ti_m_0_26, List.forall_mem_cons.mpr ⟨ti_m_0_32, List.forall_mem_cons.mpr ⟨ti_m_0_36, List.forall_mem_cons.mpr ⟨ti_m_0_40, List.forall_mem_cons.mpr ⟨ti_m_0_43, List.forall_mem_cons.mpr ⟨ti_m_0_47, List.forall_mem_cons.mpr ⟨ti_m_0_50, List.forall_mem_cons.mpr ⟨ti_m_0_54, List.forall_mem_cons.mpr ⟨ti_m_0_64, List.forall_mem_cons.mpr ⟨ti_m_0_72, fun _ h => absurd h List.not_mem_nil⟩⟩⟩⟩⟩⟩⟩⟩⟩⟩
theorem ti_bok_0 : ∀ e ∈ ti_br_0, ti_BOK 0 e.1 e.2 := fun _ h => absurd h List.not_mem_nil
theorem ti_f_1_11 : ti_FOK 1 11 1 2 2 := ⟨RX1, TX1, 14, rfl, by decide, rfl, Or.inl (ti_in 380 (by decide +kernel) (by decide +kernel)), fun h => absurd h (by decide), fun h => absurd h (by decide), fun h => absurd h (by decide)⟩
theorem ti_f_1_15 : ti_FOK 1 15 1 3 2 := ⟨RX1, TX1, 14, rfl, by decide, rfl, Or.inl (ti_in 381 (by decide +kernel) (by decide +kernel)), fun h => absurd h (by decide), fun h => absurd h (by decide), fun h => absurd h (by decide)⟩
theorem ti_f_1_18 : ti_FOK 1 18 1 5 2 := ⟨RX1, TX1, 14, rfl, by decide, rfl, Or.inl (ti_in 384 (by decide +kernel) (by decide +kernel)), fun h => absurd h (by decide), fun h => absurd h (by decide), fun h => absurd h (by decide)⟩
theorem ti_f_1_21 : ti_FOK 1 21 1 6 2 := ⟨RX1, TX1, 14, rfl, by decide, rfl, Or.inl (ti_in 385 (by decide +kernel) (by decide +kernel)), fun h => absurd h (by decide), fun h => absurd h (by decide), fun h => absurd h (by decide)⟩
theorem ti_f_1_24 : ti_FOK 1 24 1 7 2 := ⟨RX1, TX1, 14, rfl, by decide, rfl, Or.inl (ti_in 386 (by decide +kernel) (by decide +kernel)), fun h => absurd h (by decide), fun h => absurd h (by decide), fun h => absurd h (by decide)⟩
theorem ti_f_1_27 : ti_FOK 1 27 1 13 2 := ⟨RX1, TX1, 14, rfl, by decide, rfl, Or.inl (ti_in 393 (by decide +kernel) (by decide +kernel)), fun h => absurd h (by decide), fun h => absurd h (by decide), fun h => absurd h (by decide)⟩
theorem ti_f_1_30 : ti_FOK 1 30 1 0 2 := ⟨RX1, TX1, 14, rfl, by decide, rfl, Or.inl (ti_in 378 (by decide +kernel) (by decide +kernel)), fun h => absurd h (by decide), fun h => absurd h (by decide), fun h => absurd h (by decide)⟩
theorem ti_f_1_34 : ti_FOK 1 34 1 1 2 := ⟨RX1, TX1, 14, rfl, by decide, rfl, Or.inl (ti_in 379 (by decide +kernel) (by decide +kernel)), fun h => absurd h (by decide), fun h => absurd h (by decide), fun h => absurd h (by decide)⟩
theorem ti_f_1_54 : ti_FOK 1 54 6 4 0 := ⟨RX6, TX6, 5, rfl, by decide, rfl, Or.inr ⟨"SixToCarry", ti_inN 222 (by decide +kernel) (by decide +kernel)⟩, fun _ => ⟨rfl, by decide +kernel⟩, fun h => absurd h (by decide), fun h => absurd h (by decide)⟩
theorem ti_f_1_60 : ti_FOK 1 60 6 2 2 := ⟨RX6, TX6, 5, rfl, by decide, rfl, Or.inr ⟨"SixToCarry", ti_inN 214 (by decide +kernel) (by decide +kernel)⟩, fun h => absurd h (by decide), fun h => absurd h (by decide), fun h => absurd h (by decide)⟩
theorem ti_f_1_72 : ti_FOK 1 72 6 3 0 := ⟨RX6, TX6, 5, rfl, by decide, rfl, Or.inr ⟨"SixToCarry", ti_inN 218 (by decide +kernel) (by decide +kernel)⟩, fun _ => ⟨rfl, by decide +kernel⟩, fun h => absurd h (by decide), fun h => absurd h (by decide)⟩
theorem ti_f_1_75 : ti_FOK 1 75 1 4 0 := ⟨RX1, TX1, 14, rfl, by decide, rfl, Or.inl (ti_in 382 (by decide +kernel) (by decide +kernel)), fun _ => ⟨rfl, by decide +kernel⟩, fun h => absurd h (by decide), fun h => absurd h (by decide)⟩
theorem ti_f_1_81 : ti_FOK 1 81 1 10 0 := ⟨RX1, TX1, 14, rfl, by decide, rfl, Or.inl (ti_in 390 (by decide +kernel) (by decide +kernel)), fun _ => ⟨rfl, by decide +kernel⟩, fun h => absurd h (by decide), fun h => absurd h (by decide)⟩
theorem ti_f_1_84 : ti_FOK 1 84 1 9 0 := ⟨RX1, TX1, 14, rfl, by decide, rfl, Or.inl (ti_in 389 (by decide +kernel) (by decide +kernel)), fun _ => ⟨rfl, by decide +kernel⟩, fun h => absurd h (by decide), fun h => absurd h (by decide)⟩
theorem ti_f_1_87 : ti_FOK 1 87 1 12 0 := ⟨RX1, TX1, 14, rfl, by decide, rfl, Or.inl (ti_in 392 (by decide +kernel) (by decide +kernel)), fun _ => ⟨rfl, by decide +kernel⟩, fun h => absurd h (by decide), fun h => absurd h (by decide)⟩
theorem ti_f_1_90 : ti_FOK 1 90 1 11 0 := ⟨RX1, TX1, 14, rfl, by decide, rfl, Or.inl (ti_in 391 (by decide +kernel) (by decide +kernel)), fun _ => ⟨rfl, by decide +kernel⟩, fun h => absurd h (by decide), fun h => absurd h (by decide)⟩
theorem ti_f_1_119 : ti_FOK 1 119 1 8 0 := ⟨RX1, TX1, 14, rfl, by decide, rfl, Or.inl (ti_in 387 (by decide +kernel) (by decide +kernel)), fun _ => ⟨rfl, by decide +kernel⟩, fun h => absurd h (by decide), fun h => absurd h (by decide)⟩
theorem ti_fok_1 : ∀ e ∈ ti_fr_1, ti_FOK 1 e.1 e.2.1 e.2.2.1 e.2.2.2 := List.forall_mem_cons.mpr ⟨ti_f_1_11, List.forall_mem_cons.mpr ⟨ti_f_1_15, List.forall_mem_cons.mpr ⟨ti_f_1_18, List.forall_mem_cons.mpr ⟨ti_f_1_21, List.forall_mem_cons.mpr ⟨ti_f_1_24, List.forall_mem_cons.mpr ⟨ti_f_1_27, List.forall_mem_cons.mpr ⟨ti_f_1_30, List.forall_mem_cons.mpr ⟨ti_f_1_34, List.forall_mem_cons.mpr ⟨ti_f_1_54, List.forall_mem_cons.mpr ⟨ti_f_1_60, List.forall_mem_cons.mpr ⟨ti_f_1_72, List.forall_mem_cons.mpr ⟨ti_f_1_75, List.forall_mem_cons.mpr ⟨ti_f_1_81, List.forall_mem_cons.mpr ⟨ti_f_1_84, List.forall_mem_cons.mpr ⟨ti_f_1_87, List.forall_mem_cons.mpr ⟨ti_f_1_90, List.forall_mem_cons.mpr ⟨ti_f_1_119, fun _ h => absurd h List.not_mem_nil⟩⟩⟩⟩⟩⟩⟩⟩⟩⟩⟩⟩⟩⟩⟩⟩⟩
set_option maxRecDepth 100000 in
theorem ti_m_1_38 : ti_MOK 1 38 (1, hJ6_bitCount_0f7a4, 1, 1, yJ6_bitCount_0f7a4) := ⟨ti_in 726 (by decide +kernel) (by decide +kernel), ti_in 111 (by decide +kernel) (by decide +kernel), by decide, rfl, ⟨by decide +kernel, by decide +kernel⟩, by decide, Or.inr (Or.inl ⟨rfl, ti_in 1064 (by decide +kernel) (by decide +kernel), ti_in 725 (by decide +kernel) (by decide +kernel), by decide +kernel⟩)⟩
set_option maxRecDepth 100000 in
theorem ti_m_1_44 : ti_MOK 1 44 (0, hX1_knowAll, 4, 3, yX1_knowAll) := ⟨ti_in 1068 (by decide +kernel) (by decide +kernel), ti_in 97 (by decide +kernel) (by decide +kernel), by decide, rfl, ⟨by decide +kernel, by decide +kernel⟩, by decide, Or.inl ⟨rfl, ti_in 1065 (by decide +kernel) (by decide +kernel), ti_in 1067 (by decide +kernel) (by decide +kernel), ti_in 17 (by decide +kernel) (by decide +kernel), ⟨TX1, 14, rfl⟩, 2, rfl, by decide +kernel⟩⟩
set_option maxRecDepth 100000 in
theorem ti_m_1_48 : ti_MOK 1 48 (0, hX4_tell, 3, 2, yX4_tell) := ⟨ti_in 737 (by decide +kernel) (by decide +kernel), ti_in 89 (by decide +kernel) (by decide +kernel), by decide, rfl, ⟨by decide +kernel, by decide +kernel⟩, by decide, Or.inl ⟨rfl, ti_in 1069 (by decide +kernel) (by decide +kernel), ti_in 735 (by decide +kernel) (by decide +kernel), ti_in 736 (by decide +kernel) (by decide +kernel), ⟨TX4, 2, rfl⟩, 1, rfl, by decide +kernel⟩⟩
set_option maxRecDepth 100000 in
theorem ti_m_1_63 : ti_MOK 1 63 (0, hX6_weightOf, 2, 2, yX6_weightOf) := ⟨ti_in 1078 (by decide +kernel) (by decide +kernel), ti_in 92 (by decide +kernel) (by decide +kernel), by decide, rfl, ⟨by decide +kernel, by decide +kernel⟩, by decide, Or.inl ⟨rfl, ti_in 1091 (by decide +kernel) (by decide +kernel), ti_in 1076 (by decide +kernel) (by decide +kernel), ti_in 1077 (by decide +kernel) (by decide +kernel), ⟨TX6, 5, rfl⟩, 1, rfl, by decide +kernel⟩⟩
set_option maxRecDepth 100000 in
theorem ti_m_1_66 : ti_MOK 1 66 (0, hX4_tell_, 5, 3, yX4_tell_) := ⟨ti_in 733 (by decide +kernel) (by decide +kernel), ti_in 89 (by decide +kernel) (by decide +kernel), by decide, rfl, ⟨by decide +kernel, by decide +kernel⟩, by decide, Or.inl ⟨rfl, ti_in 1092 (by decide +kernel) (by decide +kernel), ti_in 731 (by decide +kernel) (by decide +kernel), ti_in 732 (by decide +kernel) (by decide +kernel), ⟨TX4, 2, rfl⟩, 2, rfl, by decide +kernel⟩⟩
set_option maxRecDepth 100000 in
theorem ti_m_1_69 : ti_MOK 1 69 (0, hX6_knownTo, 4, 2, yX6_knownTo) := ⟨ti_in 957 (by decide +kernel) (by decide +kernel), ti_in 92 (by decide +kernel) (by decide +kernel), by decide, rfl, ⟨by decide +kernel, by decide +kernel⟩, by decide, Or.inl ⟨rfl, ti_in 1101 (by decide +kernel) (by decide +kernel), ti_in 955 (by decide +kernel) (by decide +kernel), ti_in 956 (by decide +kernel) (by decide +kernel), ⟨TX6, 5, rfl⟩, 1, rfl, by decide +kernel⟩⟩
set_option maxRecDepth 100000 in
theorem ti_m_1_78 : ti_MOK 1 78 (0, hX1_surveyWorlds, 2, 1, yX1_surveyWorlds) := ⟨ti_in 1129 (by decide +kernel) (by decide +kernel), ti_in 97 (by decide +kernel) (by decide +kernel), by decide, rfl, ⟨by decide +kernel, by decide +kernel⟩, by decide, Or.inl ⟨rfl, ti_in 1126 (by decide +kernel) (by decide +kernel), ti_in 1128 (by decide +kernel) (by decide +kernel), ti_in 19 (by decide +kernel) (by decide +kernel), ⟨TX1, 14, rfl⟩, 0, rfl, by decide +kernel⟩⟩
set_option maxRecDepth 100000 in
theorem ti_m_1_99 : ti_MOK 1 99 (0, hX1_fitsAll, 5, 2, yX1_fitsAll) := ⟨ti_in 1133 (by decide +kernel) (by decide +kernel), ti_in 97 (by decide +kernel) (by decide +kernel), by decide, rfl, ⟨by decide +kernel, by decide +kernel⟩, by decide, Or.inl ⟨rfl, ti_in 1130 (by decide +kernel) (by decide +kernel), ti_in 1132 (by decide +kernel) (by decide +kernel), ti_in 20 (by decide +kernel) (by decide +kernel), ⟨TX1, 14, rfl⟩, 1, rfl, by decide +kernel⟩⟩
set_option maxRecDepth 100000 in
theorem ti_m_1_103 : ti_MOK 1 103 (0, hX1_noteWorld, 3, 2, yX1_noteWorld) := ⟨ti_in 1137 (by decide +kernel) (by decide +kernel), ti_in 97 (by decide +kernel) (by decide +kernel), by decide, rfl, ⟨by decide +kernel, by decide +kernel⟩, by decide, Or.inl ⟨rfl, ti_in 1134 (by decide +kernel) (by decide +kernel), ti_in 1136 (by decide +kernel) (by decide +kernel), ti_in 21 (by decide +kernel) (by decide +kernel), ⟨TX1, 14, rfl⟩, 1, rfl, by decide +kernel⟩⟩
set_option maxRecDepth 100000 in
theorem ti_m_1_107 : ti_MOK 1 107 (0, hX6_harmOf, 2, 2, yX6_harmOf) := ⟨ti_in 1168 (by decide +kernel) (by decide +kernel), ti_in 92 (by decide +kernel) (by decide +kernel), by decide, rfl, ⟨by decide +kernel, by decide +kernel⟩, by decide, Or.inl ⟨rfl, ti_in 1165 (by decide +kernel) (by decide +kernel), ti_in 1166 (by decide +kernel) (by decide +kernel), ti_in 1167 (by decide +kernel) (by decide +kernel), ⟨TX6, 5, rfl⟩, 1, rfl, by decide +kernel⟩⟩
set_option maxRecDepth 100000 in
theorem ti_m_1_110 : ti_MOK 1 110 (1, hX1_isLesserRow, 3, 2, yX1_isLesserRow) := ⟨ti_in 1171 (by decide +kernel) (by decide +kernel), ti_in 97 (by decide +kernel) (by decide +kernel), by decide, rfl, ⟨by decide +kernel, by decide +kernel⟩, by decide, Or.inr (Or.inl ⟨rfl, ti_in 1169 (by decide +kernel) (by decide +kernel), ti_in 1170 (by decide +kernel) (by decide +kernel), by decide +kernel⟩)⟩
set_option maxRecDepth 100000 in
theorem ti_m_1_113 : ti_MOK 1 113 (0, hX4_clear, 1, 1, yX4_clear) := ⟨ti_in 741 (by decide +kernel) (by decide +kernel), ti_in 89 (by decide +kernel) (by decide +kernel), by decide, rfl, ⟨by decide +kernel, by decide +kernel⟩, by decide, Or.inl ⟨rfl, ti_in 1172 (by decide +kernel) (by decide +kernel), ti_in 739 (by decide +kernel) (by decide +kernel), ti_in 740 (by decide +kernel) (by decide +kernel), ⟨TX4, 2, rfl⟩, 0, rfl, by decide +kernel⟩⟩
set_option maxRecDepth 100000 in
theorem ti_m_1_116 : ti_MOK 1 116 (0, hX4_addMembers, 3, 2, yX4_addMembers) := ⟨ti_in 1176 (by decide +kernel) (by decide +kernel), ti_in 89 (by decide +kernel) (by decide +kernel), by decide, rfl, ⟨by decide +kernel, by decide +kernel⟩, by decide, Or.inl ⟨rfl, ti_in 1173 (by decide +kernel) (by decide +kernel), ti_in 1174 (by decide +kernel) (by decide +kernel), ti_in 1175 (by decide +kernel) (by decide +kernel), ⟨TX4, 2, rfl⟩, 1, rfl, by decide +kernel⟩⟩
set_option maxRecDepth 100000 in
theorem ti_m_1_122 : ti_MOK 1 122 (0, hX1_agreeWithout, 5, 2, yX1_agreeWithout) := ⟨ti_in 1205 (by decide +kernel) (by decide +kernel), ti_in 97 (by decide +kernel) (by decide +kernel), by decide, rfl, ⟨by decide +kernel, by decide +kernel⟩, by decide, Or.inl ⟨rfl, ti_in 1202 (by decide +kernel) (by decide +kernel), ti_in 1204 (by decide +kernel) (by decide +kernel), ti_in 22 (by decide +kernel) (by decide +kernel), ⟨TX1, 14, rfl⟩, 1, rfl, by decide +kernel⟩⟩
theorem ti_mok_1 : ∀ e ∈ ti_mr_1, ti_MOK 1 e.1 e.2 := List.forall_mem_cons.mpr ⟨ti_m_1_38, List.forall_mem_cons.mpr ⟨ti_m_1_44, List.forall_mem_cons.mpr ⟨ti_m_1_48, List.forall_mem_cons.mpr ⟨ti_m_1_63, List.forall_mem_cons.mpr ⟨ti_m_1_66, List.forall_mem_cons.mpr ⟨ti_m_1_69, List.forall_mem_cons.mpr ⟨ti_m_1_78, List.forall_mem_cons.mpr ⟨ti_m_1_99, List.forall_mem_cons.mpr ⟨ti_m_1_103, List.forall_mem_cons.mpr ⟨ti_m_1_107, List.forall_mem_cons.mpr ⟨ti_m_1_110, List.forall_mem_cons.mpr ⟨ti_m_1_113, List.forall_mem_cons.mpr ⟨ti_m_1_116, List.forall_mem_cons.mpr ⟨ti_m_1_122, fun _ h => absurd h List.not_mem_nil⟩⟩⟩⟩⟩⟩⟩⟩⟩⟩⟩⟩⟩⟩
theorem ti_b_1_93 : ti_BOK 1 93 0 := ⟨fun _ => ti_in 1154 (by decide +kernel) (by decide +kernel), fun h => absurd h (by decide), fun h => absurd h (by decide), fun h => absurd h (by decide), fun h => absurd h (by decide)⟩
theorem ti_bok_1 : ∀ e ∈ ti_br_1, ti_BOK 1 e.1 e.2 := List.forall_mem_cons.mpr ⟨ti_b_1_93, fun _ h => absurd h List.not_mem_nil⟩
theorem ti_f_2_13 : ti_FOK 2 13 2 0 2 := ⟨RX2, TX2, 6, rfl, by decide, rfl, Or.inl (ti_in 297 (by decide +kernel) (by decide +kernel)), fun h => absurd h (by decide), fun h => absurd h (by decide), fun h => absurd h (by decide)⟩
theorem ti_f_2_17 : ti_FOK 2 17 2 1 2 := ⟨RX2, TX2, 6, rfl, by decide, rfl, Or.inl (ti_in 298 (by decide +kernel) (by decide +kernel)), fun h => absurd h (by decide), fun h => absurd h (by decide), fun h => absurd h (by decide)⟩
theorem ti_f_2_21 : ti_FOK 2 21 2 2 2 := ⟨RX2, TX2, 6, rfl, by decide, rfl, Or.inl (ti_in 299 (by decide +kernel) (by decide +kernel)), fun h => absurd h (by decide), fun h => absurd h (by decide), fun h => absurd h (by decide)⟩
theorem ti_f_2_25 : ti_FOK 2 25 2 5 0 := ⟨RX2, TX2, 6, rfl, by decide, rfl, Or.inl (ti_in 302 (by decide +kernel) (by decide +kernel)), fun _ => ⟨rfl, by decide +kernel⟩, fun h => absurd h (by decide), fun h => absurd h (by decide)⟩
theorem ti_f_2_29 : ti_FOK 2 29 2 3 0 := ⟨RX2, TX2, 6, rfl, by decide, rfl, Or.inl (ti_in 300 (by decide +kernel) (by decide +kernel)), fun _ => ⟨rfl, by decide +kernel⟩, fun h => absurd h (by decide), fun h => absurd h (by decide)⟩
theorem ti_f_2_36 : ti_FOK 2 36 2 4 0 := ⟨RX2, TX2, 6, rfl, by decide, rfl, Or.inl (ti_in 301 (by decide +kernel) (by decide +kernel)), fun _ => ⟨rfl, by decide +kernel⟩, fun h => absurd h (by decide), fun h => absurd h (by decide)⟩
theorem ti_fok_2 : ∀ e ∈ ti_fr_2, ti_FOK 2 e.1 e.2.1 e.2.2.1 e.2.2.2 := List.forall_mem_cons.mpr ⟨ti_f_2_13, List.forall_mem_cons.mpr ⟨ti_f_2_17, List.forall_mem_cons.mpr ⟨ti_f_2_21, List.forall_mem_cons.mpr ⟨ti_f_2_25, List.forall_mem_cons.mpr ⟨ti_f_2_29, List.forall_mem_cons.mpr ⟨ti_f_2_36, fun _ h => absurd h List.not_mem_nil⟩⟩⟩⟩⟩⟩
set_option maxRecDepth 100000 in
theorem ti_m_2_32 : ti_MOK 2 32 (0, hX7_become, 2, 2, yX7_become) := ⟨ti_in 805 (by decide +kernel) (by decide +kernel), ti_in 93 (by decide +kernel) (by decide +kernel), by decide, rfl, ⟨by decide +kernel, by decide +kernel⟩, by decide, Or.inl ⟨rfl, ti_in 802 (by decide +kernel) (by decide +kernel), ti_in 803 (by decide +kernel) (by decide +kernel), ti_in 804 (by decide +kernel) (by decide +kernel), ⟨TX7, 8, rfl⟩, 1, rfl, by decide +kernel⟩⟩
theorem ti_mok_2 : ∀ e ∈ ti_mr_2, ti_MOK 2 e.1 e.2 := List.forall_mem_cons.mpr ⟨ti_m_2_32, fun _ h => absurd h List.not_mem_nil⟩
theorem ti_b_2_39 : ti_BOK 2 39 1 := ⟨fun h => absurd h (by decide), fun _ => ti_in 822 (by decide +kernel) (by decide +kernel), fun h => absurd h (by decide), fun h => absurd h (by decide), fun h => absurd h (by decide)⟩
theorem ti_bok_2 : ∀ e ∈ ti_br_2, ti_BOK 2 e.1 e.2 := List.forall_mem_cons.mpr ⟨ti_b_2_39, fun _ h => absurd h List.not_mem_nil⟩
theorem ti_f_3_12 : ti_FOK 3 12 3 4 2 := ⟨RX3, TX3, 9, rfl, by decide, rfl, Or.inl (ti_in 329 (by decide +kernel) (by decide +kernel)), fun h => absurd h (by decide), fun h => absurd h (by decide), fun h => absurd h (by decide)⟩
theorem ti_f_3_18 : ti_FOK 3 18 3 5 2 := ⟨RX3, TX3, 9, rfl, by decide, rfl, Or.inl (ti_in 330 (by decide +kernel) (by decide +kernel)), fun h => absurd h (by decide), fun h => absurd h (by decide), fun h => absurd h (by decide)⟩
theorem ti_f_3_22 : ti_FOK 3 22 3 6 2 := ⟨RX3, TX3, 9, rfl, by decide, rfl, Or.inl (ti_in 331 (by decide +kernel) (by decide +kernel)), fun h => absurd h (by decide), fun h => absurd h (by decide), fun h => absurd h (by decide)⟩
theorem ti_f_3_25 : ti_FOK 3 25 3 7 2 := ⟨RX3, TX3, 9, rfl, by decide, rfl, Or.inl (ti_in 332 (by decide +kernel) (by decide +kernel)), fun h => absurd h (by decide), fun h => absurd h (by decide), fun h => absurd h (by decide)⟩
theorem ti_f_3_28 : ti_FOK 3 28 3 0 2 := ⟨RX3, TX3, 9, rfl, by decide, rfl, Or.inl (ti_in 325 (by decide +kernel) (by decide +kernel)), fun h => absurd h (by decide), fun h => absurd h (by decide), fun h => absurd h (by decide)⟩
theorem ti_f_3_32 : ti_FOK 3 32 3 1 2 := ⟨RX3, TX3, 9, rfl, by decide, rfl, Or.inl (ti_in 326 (by decide +kernel) (by decide +kernel)), fun h => absurd h (by decide), fun h => absurd h (by decide), fun h => absurd h (by decide)⟩
theorem ti_f_3_36 : ti_FOK 3 36 3 2 2 := ⟨RX3, TX3, 9, rfl, by decide, rfl, Or.inl (ti_in 327 (by decide +kernel) (by decide +kernel)), fun h => absurd h (by decide), fun h => absurd h (by decide), fun h => absurd h (by decide)⟩
theorem ti_f_3_40 : ti_FOK 3 40 3 3 2 := ⟨RX3, TX3, 9, rfl, by decide, rfl, Or.inl (ti_in 328 (by decide +kernel) (by decide +kernel)), fun h => absurd h (by decide), fun h => absurd h (by decide), fun h => absurd h (by decide)⟩
theorem ti_f_3_48 : ti_FOK 3 48 7 1 0 := ⟨RX7, TX7, 8, rfl, by decide, rfl, Or.inr ⟨"SixToCarry", ti_inN 248 (by decide +kernel) (by decide +kernel)⟩, fun _ => ⟨rfl, by decide +kernel⟩, fun h => absurd h (by decide), fun h => absurd h (by decide)⟩
theorem ti_f_3_52 : ti_FOK 3 52 10 2 0 := ⟨RX10, TX10, 3, rfl, by decide, rfl, Or.inr ⟨"SixToCarry", ti_inN 166 (by decide +kernel) (by decide +kernel)⟩, fun _ => ⟨rfl, by decide +kernel⟩, fun h => absurd h (by decide), fun h => absurd h (by decide)⟩
theorem ti_f_3_61 : ti_FOK 3 61 0 3 0 := ⟨RX0, TX0, 4, rfl, by decide, rfl, Or.inr ⟨"SixToCarry", ti_inN 190 (by decide +kernel) (by decide +kernel)⟩, fun _ => ⟨rfl, by decide +kernel⟩, fun h => absurd h (by decide), fun h => absurd h (by decide)⟩
theorem ti_f_3_66 : ti_FOK 3 66 7 0 2 := ⟨RX7, TX7, 8, rfl, by decide, rfl, Or.inr ⟨"SixToCarry", ti_inN 243 (by decide +kernel) (by decide +kernel)⟩, fun h => absurd h (by decide), fun h => absurd h (by decide), fun h => absurd h (by decide)⟩
theorem ti_f_3_75 : ti_FOK 3 75 7 7 0 := ⟨RX7, TX7, 8, rfl, by decide, rfl, Or.inr ⟨"SixToCarry", ti_inN 269 (by decide +kernel) (by decide +kernel)⟩, fun _ => ⟨rfl, by decide +kernel⟩, fun h => absurd h (by decide), fun h => absurd h (by decide)⟩
theorem ti_f_3_82 : ti_FOK 3 82 7 3 0 := ⟨RX7, TX7, 8, rfl, by decide, rfl, Or.inr ⟨"SixToCarry", ti_inN 256 (by decide +kernel) (by decide +kernel)⟩, fun _ => ⟨rfl, by decide +kernel⟩, fun h => absurd h (by decide), fun h => absurd h (by decide)⟩
theorem ti_f_3_103 : ti_FOK 3 103 7 4 0 := ⟨RX7, TX7, 8, rfl, by decide, rfl, Or.inr ⟨"SixToCarry", ti_inN 260 (by decide +kernel) (by decide +kernel)⟩, fun _ => ⟨rfl, by decide +kernel⟩, fun h => absurd h (by decide), fun h => absurd h (by decide)⟩
theorem ti_f_3_121 : ti_FOK 3 121 7 6 1 := ⟨RX7, TX7, 8, rfl, by decide, rfl, Or.inr ⟨"SixToCarry", ti_inN 267 (by decide +kernel) (by decide +kernel)⟩, fun h => absurd h (by decide), fun _ => ⟨rfl, by decide +kernel⟩, fun h => absurd h (by decide)⟩
theorem ti_f_3_125 : ti_FOK 3 125 7 2 0 := ⟨RX7, TX7, 8, rfl, by decide, rfl, Or.inr ⟨"SixToCarry", ti_inN 253 (by decide +kernel) (by decide +kernel)⟩, fun _ => ⟨rfl, by decide +kernel⟩, fun h => absurd h (by decide), fun h => absurd h (by decide)⟩
theorem ti_f_3_128 : ti_FOK 3 128 6 3 0 := ⟨RX6, TX6, 5, rfl, by decide, rfl, Or.inr ⟨"SixToCarry", ti_inN 219 (by decide +kernel) (by decide +kernel)⟩, fun _ => ⟨rfl, by decide +kernel⟩, fun h => absurd h (by decide), fun h => absurd h (by decide)⟩
theorem ti_f_3_136 : ti_FOK 3 136 7 5 0 := ⟨RX7, TX7, 8, rfl, by decide, rfl, Or.inr ⟨"SixToCarry", ti_inN 263 (by decide +kernel) (by decide +kernel)⟩, fun _ => ⟨rfl, by decide +kernel⟩, fun h => absurd h (by decide), fun h => absurd h (by decide)⟩
theorem ti_f_3_143 : ti_FOK 3 143 6 4 0 := ⟨RX6, TX6, 5, rfl, by decide, rfl, Or.inr ⟨"SixToCarry", ti_inN 224 (by decide +kernel) (by decide +kernel)⟩, fun _ => ⟨rfl, by decide +kernel⟩, fun h => absurd h (by decide), fun h => absurd h (by decide)⟩
theorem ti_f_3_151 : ti_FOK 3 151 3 8 0 := ⟨RX3, TX3, 9, rfl, by decide, rfl, Or.inl (ti_in 333 (by decide +kernel) (by decide +kernel)), fun _ => ⟨rfl, by decide +kernel⟩, fun h => absurd h (by decide), fun h => absurd h (by decide)⟩
theorem ti_fok_3 : ∀ e ∈ ti_fr_3, ti_FOK 3 e.1 e.2.1 e.2.2.1 e.2.2.2 := List.forall_mem_cons.mpr ⟨ti_f_3_12, List.forall_mem_cons.mpr ⟨ti_f_3_18, List.forall_mem_cons.mpr ⟨ti_f_3_22, List.forall_mem_cons.mpr ⟨ti_f_3_25, List.forall_mem_cons.mpr ⟨ti_f_3_28, List.forall_mem_cons.mpr ⟨ti_f_3_32, List.forall_mem_cons.mpr ⟨ti_f_3_36, List.forall_mem_cons.mpr ⟨ti_f_3_40, List.forall_mem_cons.mpr ⟨ti_f_3_48, List.forall_mem_cons.mpr ⟨ti_f_3_52, List.forall_mem_cons.mpr ⟨ti_f_3_61, List.forall_mem_cons.mpr ⟨ti_f_3_66, List.forall_mem_cons.mpr ⟨ti_f_3_75, List.forall_mem_cons.mpr ⟨ti_f_3_82, List.forall_mem_cons.mpr ⟨ti_f_3_103, List.forall_mem_cons.mpr ⟨ti_f_3_121, List.forall_mem_cons.mpr ⟨ti_f_3_125, List.forall_mem_cons.mpr ⟨ti_f_3_128, List.forall_mem_cons.mpr ⟨ti_f_3_136, List.forall_mem_cons.mpr ⟨ti_f_3_143, List.forall_mem_cons.mpr ⟨ti_f_3_151, fun _ h => absurd h List.not_mem_nil⟩⟩⟩⟩⟩⟩⟩⟩⟩⟩⟩⟩⟩⟩⟩⟩⟩⟩⟩⟩⟩
set_option maxRecDepth 100000 in
theorem ti_m_3_44 : ti_MOK 3 44 (0, hX7_become, 2, 2, yX7_become) := ⟨ti_in 805 (by decide +kernel) (by decide +kernel), ti_in 93 (by decide +kernel) (by decide +kernel), by decide, rfl, ⟨by decide +kernel, by decide +kernel⟩, by decide, Or.inl ⟨rfl, ti_in 915 (by decide +kernel) (by decide +kernel), ti_in 803 (by decide +kernel) (by decide +kernel), ti_in 804 (by decide +kernel) (by decide +kernel), ⟨TX7, 8, rfl⟩, 1, rfl, by decide +kernel⟩⟩
set_option maxRecDepth 100000 in
theorem ti_m_3_57 : ti_MOK 3 57 (0, hX7_advance, 5, 4, yX7_advance) := ⟨ti_in 810 (by decide +kernel) (by decide +kernel), ti_in 93 (by decide +kernel) (by decide +kernel), by decide, rfl, ⟨by decide +kernel, by decide +kernel⟩, by decide, Or.inl ⟨rfl, ti_in 916 (by decide +kernel) (by decide +kernel), ti_in 808 (by decide +kernel) (by decide +kernel), ti_in 809 (by decide +kernel) (by decide +kernel), ⟨TX7, 8, rfl⟩, 3, rfl, by decide +kernel⟩⟩
set_option maxRecDepth 100000 in
theorem ti_m_3_69 : ti_MOK 3 69 (0, hX4_tell_, 5, 3, yX4_tell_) := ⟨ti_in 733 (by decide +kernel) (by decide +kernel), ti_in 89 (by decide +kernel) (by decide +kernel), by decide, rfl, ⟨by decide +kernel, by decide +kernel⟩, by decide, Or.inl ⟨rfl, ti_in 917 (by decide +kernel) (by decide +kernel), ti_in 731 (by decide +kernel) (by decide +kernel), ti_in 732 (by decide +kernel) (by decide +kernel), ⟨TX4, 2, rfl⟩, 2, rfl, by decide +kernel⟩⟩
set_option maxRecDepth 100000 in
theorem ti_m_3_78 : ti_MOK 3 78 (0, hX3_findBorne, 4, 3, yX3_findBorne) := ⟨ti_in 937 (by decide +kernel) (by decide +kernel), ti_in 95 (by decide +kernel) (by decide +kernel), by decide, rfl, ⟨by decide +kernel, by decide +kernel⟩, by decide, Or.inl ⟨rfl, ti_in 934 (by decide +kernel) (by decide +kernel), ti_in 936 (by decide +kernel) (by decide +kernel), ti_in 12 (by decide +kernel) (by decide +kernel), ⟨TX3, 9, rfl⟩, 2, rfl, by decide +kernel⟩⟩
set_option maxRecDepth 100000 in
theorem ti_m_3_85 : ti_MOK 3 85 (0, hX0_forceOf, 9, 4, yX0_forceOf) := ⟨ti_in 749 (by decide +kernel) (by decide +kernel), ti_in 91 (by decide +kernel) (by decide +kernel), by decide, rfl, ⟨by decide +kernel, by decide +kernel⟩, by decide, Or.inl ⟨rfl, ti_in 938 (by decide +kernel) (by decide +kernel), ti_in 747 (by decide +kernel) (by decide +kernel), ti_in 748 (by decide +kernel) (by decide +kernel), ⟨TX0, 4, rfl⟩, 3, rfl, by decide +kernel⟩⟩
set_option maxRecDepth 100000 in
theorem ti_m_3_89 : ti_MOK 3 89 (0, hX10_steepAt, 2, 2, yX10_steepAt) := ⟨ti_in 723 (by decide +kernel) (by decide +kernel), ti_in 90 (by decide +kernel) (by decide +kernel), by decide, rfl, ⟨by decide +kernel, by decide +kernel⟩, by decide, Or.inl ⟨rfl, ti_in 939 (by decide +kernel) (by decide +kernel), ti_in 721 (by decide +kernel) (by decide +kernel), ti_in 722 (by decide +kernel) (by decide +kernel), ⟨TX10, 3, rfl⟩, 1, rfl, by decide +kernel⟩⟩
set_option maxRecDepth 100000 in
theorem ti_m_3_93 : ti_MOK 3 93 (0, hX7_moveOn, 5, 3, yX7_moveOn) := ⟨ti_in 816 (by decide +kernel) (by decide +kernel), ti_in 93 (by decide +kernel) (by decide +kernel), by decide, rfl, ⟨by decide +kernel, by decide +kernel⟩, by decide, Or.inl ⟨rfl, ti_in 940 (by decide +kernel) (by decide +kernel), ti_in 814 (by decide +kernel) (by decide +kernel), ti_in 815 (by decide +kernel) (by decide +kernel), ⟨TX7, 8, rfl⟩, 2, rfl, by decide +kernel⟩⟩
set_option maxRecDepth 100000 in
theorem ti_m_3_106 : ti_MOK 3 106 (0, hX3_fewestBy, 5, 3, yX3_fewestBy) := ⟨ti_in 953 (by decide +kernel) (by decide +kernel), ti_in 95 (by decide +kernel) (by decide +kernel), by decide, rfl, ⟨by decide +kernel, by decide +kernel⟩, by decide, Or.inl ⟨rfl, ti_in 950 (by decide +kernel) (by decide +kernel), ti_in 952 (by decide +kernel) (by decide +kernel), ti_in 13 (by decide +kernel) (by decide +kernel), ⟨TX3, 9, rfl⟩, 2, rfl, by decide +kernel⟩⟩
set_option maxRecDepth 100000 in
theorem ti_m_3_110 : ti_MOK 3 110 (0, hX4_clear, 1, 1, yX4_clear) := ⟨ti_in 741 (by decide +kernel) (by decide +kernel), ti_in 89 (by decide +kernel) (by decide +kernel), by decide, rfl, ⟨by decide +kernel, by decide +kernel⟩, by decide, Or.inl ⟨rfl, ti_in 966 (by decide +kernel) (by decide +kernel), ti_in 739 (by decide +kernel) (by decide +kernel), ti_in 740 (by decide +kernel) (by decide +kernel), ⟨TX4, 2, rfl⟩, 0, rfl, by decide +kernel⟩⟩
set_option maxRecDepth 100000 in
theorem ti_m_3_113 : ti_MOK 3 113 (1, hX3_firstToSpeak, 1, 1, yX3_firstToSpeak) := ⟨ti_in 960 (by decide +kernel) (by decide +kernel), ti_in 95 (by decide +kernel) (by decide +kernel), by decide, rfl, ⟨by decide +kernel, by decide +kernel⟩, by decide, Or.inr (Or.inl ⟨rfl, ti_in 958 (by decide +kernel) (by decide +kernel), ti_in 959 (by decide +kernel) (by decide +kernel), by decide +kernel⟩)⟩
set_option maxRecDepth 100000 in
theorem ti_m_3_117 : ti_MOK 3 117 (0, hX4_add, 3, 2, yX4_add) := ⟨ti_in 745 (by decide +kernel) (by decide +kernel), ti_in 89 (by decide +kernel) (by decide +kernel), by decide, rfl, ⟨by decide +kernel, by decide +kernel⟩, by decide, Or.inl ⟨rfl, ti_in 967 (by decide +kernel) (by decide +kernel), ti_in 743 (by decide +kernel) (by decide +kernel), ti_in 744 (by decide +kernel) (by decide +kernel), ⟨TX4, 2, rfl⟩, 1, rfl, by decide +kernel⟩⟩
set_option maxRecDepth 100000 in
theorem ti_m_3_133 : ti_MOK 3 133 (0, hX6_knownTo, 4, 2, yX6_knownTo) := ⟨ti_in 957 (by decide +kernel) (by decide +kernel), ti_in 92 (by decide +kernel) (by decide +kernel), by decide, rfl, ⟨by decide +kernel, by decide +kernel⟩, by decide, Or.inl ⟨rfl, ti_in 954 (by decide +kernel) (by decide +kernel), ti_in 955 (by decide +kernel) (by decide +kernel), ti_in 956 (by decide +kernel) (by decide +kernel), ⟨TX6, 5, rfl⟩, 1, rfl, by decide +kernel⟩⟩
set_option maxRecDepth 100000 in
theorem ti_m_3_139 : ti_MOK 3 139 (0, hX3_hushes, 9, 6, yX3_hushes) := ⟨ti_in 964 (by decide +kernel) (by decide +kernel), ti_in 95 (by decide +kernel) (by decide +kernel), by decide, rfl, ⟨by decide +kernel, by decide +kernel⟩, by decide, Or.inl ⟨rfl, ti_in 961 (by decide +kernel) (by decide +kernel), ti_in 963 (by decide +kernel) (by decide +kernel), ti_in 14 (by decide +kernel) (by decide +kernel), ⟨TX3, 9, rfl⟩, 5, rfl, by decide +kernel⟩⟩
set_option maxRecDepth 100000 in
theorem ti_m_3_144 : ti_MOK 3 144 (0, hX6_loadAfter, 3, 3, yX6_loadAfter) := ⟨ti_in 871 (by decide +kernel) (by decide +kernel), ti_in 92 (by decide +kernel) (by decide +kernel), by decide, rfl, ⟨by decide +kernel, by decide +kernel⟩, by decide, Or.inl ⟨rfl, ti_in 965 (by decide +kernel) (by decide +kernel), ti_in 869 (by decide +kernel) (by decide +kernel), ti_in 870 (by decide +kernel) (by decide +kernel), ⟨TX6, 5, rfl⟩, 2, rfl, by decide +kernel⟩⟩
set_option maxRecDepth 100000 in
theorem ti_m_3_147 : ti_MOK 3 147 (0, hX7_hindranceTo, 4, 4, yX7_hindranceTo) := ⟨ti_in 867 (by decide +kernel) (by decide +kernel), ti_in 93 (by decide +kernel) (by decide +kernel), by decide, rfl, ⟨by decide +kernel, by decide +kernel⟩, by decide, Or.inl ⟨rfl, ti_in 984 (by decide +kernel) (by decide +kernel), ti_in 865 (by decide +kernel) (by decide +kernel), ti_in 866 (by decide +kernel) (by decide +kernel), ⟨TX7, 8, rfl⟩, 3, rfl, by decide +kernel⟩⟩
set_option maxRecDepth 100000 in
theorem ti_m_3_154 : ti_MOK 3 154 (0, hX3_doDrawn, 2, 2, yX3_doDrawn) := ⟨ti_in 1252 (by decide +kernel) (by decide +kernel), ti_in 95 (by decide +kernel) (by decide +kernel), by decide, rfl, ⟨by decide +kernel, by decide +kernel⟩, by decide, Or.inl ⟨rfl, ti_in 1249 (by decide +kernel) (by decide +kernel), ti_in 1251 (by decide +kernel) (by decide +kernel), ti_in 24 (by decide +kernel) (by decide +kernel), ⟨TX3, 9, rfl⟩, 1, rfl, by decide +kernel⟩⟩
set_option maxRecDepth 100000 in
theorem ti_m_3_158 : ti_MOK 3 158 (0, hX3_draw, 2, 2, yX3_draw) := ⟨ti_in 1256 (by decide +kernel) (by decide +kernel), ti_in 95 (by decide +kernel) (by decide +kernel), by decide, rfl, ⟨by decide +kernel, by decide +kernel⟩, by decide, Or.inl ⟨rfl, ti_in 1253 (by decide +kernel) (by decide +kernel), ti_in 1255 (by decide +kernel) (by decide +kernel), ti_in 25 (by decide +kernel) (by decide +kernel), ⟨TX3, 9, rfl⟩, 1, rfl, by decide +kernel⟩⟩
set_option maxRecDepth 100000 in
theorem ti_m_3_161 : ti_MOK 3 161 (0, hX3_turn, 2, 2, yX3_turn) := ⟨ti_in 1261 (by decide +kernel) (by decide +kernel), ti_in 95 (by decide +kernel) (by decide +kernel), by decide, rfl, ⟨by decide +kernel, by decide +kernel⟩, by decide, Or.inl ⟨rfl, ti_in 1258 (by decide +kernel) (by decide +kernel), ti_in 1260 (by decide +kernel) (by decide +kernel), ti_in 26 (by decide +kernel) (by decide +kernel), ⟨TX3, 9, rfl⟩, 1, rfl, by decide +kernel⟩⟩
set_option maxRecDepth 100000 in
theorem ti_m_3_165 : ti_MOK 3 165 (0, hX7_speak, 5, 4, yX7_speak) := ⟨ti_in 859 (by decide +kernel) (by decide +kernel), ti_in 93 (by decide +kernel) (by decide +kernel), by decide, rfl, ⟨by decide +kernel, by decide +kernel⟩, by decide, Or.inl ⟨rfl, ti_in 1264 (by decide +kernel) (by decide +kernel), ti_in 857 (by decide +kernel) (by decide +kernel), ti_in 858 (by decide +kernel) (by decide +kernel), ⟨TX7, 8, rfl⟩, 3, rfl, by decide +kernel⟩⟩
set_option maxRecDepth 100000 in
theorem ti_m_3_168 : ti_MOK 3 168 (0, hX7_follow, 3, 2, yX7_follow) := ⟨ti_in 851 (by decide +kernel) (by decide +kernel), ti_in 93 (by decide +kernel) (by decide +kernel), by decide, rfl, ⟨by decide +kernel, by decide +kernel⟩, by decide, Or.inl ⟨rfl, ti_in 1265 (by decide +kernel) (by decide +kernel), ti_in 849 (by decide +kernel) (by decide +kernel), ti_in 850 (by decide +kernel) (by decide +kernel), ⟨TX7, 8, rfl⟩, 1, rfl, by decide +kernel⟩⟩
set_option maxRecDepth 100000 in
theorem ti_m_3_171 : ti_MOK 3 171 (0, hX7_letGo, 3, 3, yX7_letGo) := ⟨ti_in 843 (by decide +kernel) (by decide +kernel), ti_in 93 (by decide +kernel) (by decide +kernel), by decide, rfl, ⟨by decide +kernel, by decide +kernel⟩, by decide, Or.inl ⟨rfl, ti_in 1262 (by decide +kernel) (by decide +kernel), ti_in 841 (by decide +kernel) (by decide +kernel), ti_in 842 (by decide +kernel) (by decide +kernel), ⟨TX7, 8, rfl⟩, 2, rfl, by decide +kernel⟩⟩
set_option maxRecDepth 100000 in
theorem ti_m_3_175 : ti_MOK 3 175 (0, hX7_takeHold, 3, 3, yX7_takeHold) := ⟨ti_in 830 (by decide +kernel) (by decide +kernel), ti_in 93 (by decide +kernel) (by decide +kernel), by decide, rfl, ⟨by decide +kernel, by decide +kernel⟩, by decide, Or.inl ⟨rfl, ti_in 1263 (by decide +kernel) (by decide +kernel), ti_in 828 (by decide +kernel) (by decide +kernel), ti_in 829 (by decide +kernel) (by decide +kernel), ⟨TX7, 8, rfl⟩, 2, rfl, by decide +kernel⟩⟩
theorem ti_mok_3 : ∀ e ∈ ti_mr_3, ti_MOK 3 e.1 e.2 := List.forall_mem_cons.mpr ⟨ti_m_3_44, List.forall_mem_cons.mpr ⟨ti_m_3_57, List.forall_mem_cons.mpr ⟨ti_m_3_69, List.forall_mem_cons.mpr ⟨ti_m_3_78, List.forall_mem_cons.mpr ⟨ti_m_3_85, List.forall_mem_cons.mpr ⟨ti_m_3_89, List.forall_mem_cons.mpr ⟨ti_m_3_93, List.forall_mem_cons.mpr ⟨ti_m_3_106, List.forall_mem_cons.mpr ⟨ti_m_3_110, List.forall_mem_cons.mpr ⟨ti_m_3_113, List.forall_mem_cons.mpr ⟨ti_m_3_117, List.forall_mem_cons.mpr ⟨ti_m_3_133, List.forall_mem_cons.mpr ⟨ti_m_3_139, List.forall_mem_cons.mpr ⟨ti_m_3_144, List.forall_mem_cons.mpr ⟨ti_m_3_147, List.forall_mem_cons.mpr ⟨ti_m_3_154, List.forall_mem_cons.mpr ⟨ti_m_3_158, List.forall_mem_cons.mpr ⟨ti_m_3_161, List.forall_mem_cons.mpr ⟨ti_m_3_165, List.forall_mem_cons.mpr ⟨ti_m_3_168, List.forall_mem_cons.mpr ⟨ti_m_3_171, List.forall_mem_cons.mpr ⟨ti_m_3_175, fun _ h => absurd h List.not_mem_nil⟩⟩⟩⟩⟩⟩⟩⟩⟩⟩⟩⟩⟩⟩⟩⟩⟩⟩⟩⟩⟩⟩
theorem ti_b_3_97 : ti_BOK 3 97 1 := ⟨fun h => absurd h (by decide), fun _ => ti_in 941 (by decide +kernel) (by decide +kernel), fun h => absurd h (by decide), fun h => absurd h (by decide), fun h => absurd h (by decide)⟩
theorem ti_bok_3 : ∀ e ∈ ti_br_3, ti_BOK 3 e.1 e.2 := List.forall_mem_cons.mpr ⟨ti_b_3_97, fun _ h => absurd h List.not_mem_nil⟩
theorem ti_f_4_9 : ti_FOK 4 9 4 0 2 := ⟨RX4, TX4, 2, rfl, by decide, rfl, Or.inl (ti_in 149 (by decide +kernel) (by decide +kernel)), fun h => absurd h (by decide), fun h => absurd h (by decide), fun h => absurd h (by decide)⟩
theorem ti_f_4_15 : ti_FOK 4 15 4 1 0 := ⟨RX4, TX4, 2, rfl, by decide, rfl, Or.inl (ti_in 150 (by decide +kernel) (by decide +kernel)), fun _ => ⟨rfl, by decide +kernel⟩, fun h => absurd h (by decide), fun h => absurd h (by decide)⟩
theorem ti_fok_4 : ∀ e ∈ ti_fr_4, ti_FOK 4 e.1 e.2.1 e.2.2.1 e.2.2.2 := List.forall_mem_cons.mpr ⟨ti_f_4_9, List.forall_mem_cons.mpr ⟨ti_f_4_15, fun _ h => absurd h List.not_mem_nil⟩⟩
set_option maxRecDepth 100000 in
theorem ti_m_4_19 : ti_MOK 4 19 (0, hX4_clear, 1, 1, yX4_clear) := ⟨ti_in 741 (by decide +kernel) (by decide +kernel), ti_in 89 (by decide +kernel) (by decide +kernel), by decide, rfl, ⟨by decide +kernel, by decide +kernel⟩, by decide, Or.inl ⟨rfl, ti_in 738 (by decide +kernel) (by decide +kernel), ti_in 739 (by decide +kernel) (by decide +kernel), ti_in 740 (by decide +kernel) (by decide +kernel), ⟨TX4, 2, rfl⟩, 0, rfl, by decide +kernel⟩⟩
set_option maxRecDepth 100000 in
theorem ti_m_4_22 : ti_MOK 4 22 (0, hX4_add, 3, 2, yX4_add) := ⟨ti_in 745 (by decide +kernel) (by decide +kernel), ti_in 89 (by decide +kernel) (by decide +kernel), by decide, rfl, ⟨by decide +kernel, by decide +kernel⟩, by decide, Or.inl ⟨rfl, ti_in 742 (by decide +kernel) (by decide +kernel), ti_in 743 (by decide +kernel) (by decide +kernel), ti_in 744 (by decide +kernel) (by decide +kernel), ⟨TX4, 2, rfl⟩, 1, rfl, by decide +kernel⟩⟩
set_option maxRecDepth 100000 in
theorem ti_m_4_26 : ti_MOK 4 26 (0, hX4_tell, 3, 2, yX4_tell) := ⟨ti_in 737 (by decide +kernel) (by decide +kernel), ti_in 89 (by decide +kernel) (by decide +kernel), by decide, rfl, ⟨by decide +kernel, by decide +kernel⟩, by decide, Or.inl ⟨rfl, ti_in 734 (by decide +kernel) (by decide +kernel), ti_in 735 (by decide +kernel) (by decide +kernel), ti_in 736 (by decide +kernel) (by decide +kernel), ⟨TX4, 2, rfl⟩, 1, rfl, by decide +kernel⟩⟩
theorem ti_mok_4 : ∀ e ∈ ti_mr_4, ti_MOK 4 e.1 e.2 := List.forall_mem_cons.mpr ⟨ti_m_4_19, List.forall_mem_cons.mpr ⟨ti_m_4_22, List.forall_mem_cons.mpr ⟨ti_m_4_26, fun _ h => absurd h List.not_mem_nil⟩⟩⟩
theorem ti_bok_4 : ∀ e ∈ ti_br_4, ti_BOK 4 e.1 e.2 := fun _ h => absurd h List.not_mem_nil
theorem ti_f_5_11 : ti_FOK 5 11 5 0 2 := ⟨RX5, TX5, 4, rfl, by decide, rfl, Or.inl (ti_in 429 (by decide +kernel) (by decide +kernel)), fun h => absurd h (by decide), fun h => absurd h (by decide), fun h => absurd h (by decide)⟩
theorem ti_f_5_15 : ti_FOK 5 15 5 1 2 := ⟨RX5, TX5, 4, rfl, by decide, rfl, Or.inl (ti_in 430 (by decide +kernel) (by decide +kernel)), fun h => absurd h (by decide), fun h => absurd h (by decide), fun h => absurd h (by decide)⟩
theorem ti_f_5_18 : ti_FOK 5 18 5 2 2 := ⟨RX5, TX5, 4, rfl, by decide, rfl, Or.inl (ti_in 431 (by decide +kernel) (by decide +kernel)), fun h => absurd h (by decide), fun h => absurd h (by decide), fun h => absurd h (by decide)⟩
theorem ti_f_5_21 : ti_FOK 5 21 5 3 0 := ⟨RX5, TX5, 4, rfl, by decide, rfl, Or.inl (ti_in 432 (by decide +kernel) (by decide +kernel)), fun _ => ⟨rfl, by decide +kernel⟩, fun h => absurd h (by decide), fun h => absurd h (by decide)⟩
theorem ti_fok_5 : ∀ e ∈ ti_fr_5, ti_FOK 5 e.1 e.2.1 e.2.2.1 e.2.2.2 := List.forall_mem_cons.mpr ⟨ti_f_5_11, List.forall_mem_cons.mpr ⟨ti_f_5_15, List.forall_mem_cons.mpr ⟨ti_f_5_18, List.forall_mem_cons.mpr ⟨ti_f_5_21, fun _ h => absurd h List.not_mem_nil⟩⟩⟩⟩
set_option maxRecDepth 100000 in
theorem ti_m_5_25 : ti_MOK 5 25 (2, hX11_within, 3, 3, yX11_within) := ⟨ti_in 762 (by decide +kernel) (by decide +kernel), ti_in 87 (by decide +kernel) (by decide +kernel), by decide, rfl, ⟨by decide +kernel, by decide +kernel⟩, by decide, Or.inr (Or.inr ⟨rfl, ⟨"SixToCarry", ti_inN 760 (by decide +kernel) (by decide +kernel)⟩, ti_in 761 (by decide +kernel) (by decide +kernel), by decide +kernel⟩)⟩
set_option maxRecDepth 100000 in
theorem ti_m_5_29 : ti_MOK 5 29 (0, hX5_compute, 4, 1, yX5_compute) := ⟨ti_in 766 (by decide +kernel) (by decide +kernel), ti_in 98 (by decide +kernel) (by decide +kernel), by decide, rfl, ⟨by decide +kernel, by decide +kernel⟩, by decide, Or.inl ⟨rfl, ti_in 763 (by decide +kernel) (by decide +kernel), ti_in 765 (by decide +kernel) (by decide +kernel), ti_in 7 (by decide +kernel) (by decide +kernel), ⟨TX5, 4, rfl⟩, 0, rfl, by decide +kernel⟩⟩
set_option maxRecDepth 100000 in
theorem ti_m_5_33 : ti_MOK 5 33 (1, hX5_joined, 3, 3, yX5_joined) := ⟨ti_in 769 (by decide +kernel) (by decide +kernel), ti_in 98 (by decide +kernel) (by decide +kernel), by decide, rfl, ⟨by decide +kernel, by decide +kernel⟩, by decide, Or.inr (Or.inl ⟨rfl, ti_in 767 (by decide +kernel) (by decide +kernel), ti_in 768 (by decide +kernel) (by decide +kernel), by decide +kernel⟩)⟩
set_option maxRecDepth 100000 in
theorem ti_m_5_36 : ti_MOK 5 36 (0, hX5_valueOf, 2, 2, yX5_valueOf) := ⟨ti_in 773 (by decide +kernel) (by decide +kernel), ti_in 98 (by decide +kernel) (by decide +kernel), by decide, rfl, ⟨by decide +kernel, by decide +kernel⟩, by decide, Or.inl ⟨rfl, ti_in 770 (by decide +kernel) (by decide +kernel), ti_in 772 (by decide +kernel) (by decide +kernel), ti_in 8 (by decide +kernel) (by decide +kernel), ⟨TX5, 4, rfl⟩, 1, rfl, by decide +kernel⟩⟩
set_option maxRecDepth 100000 in
theorem ti_m_5_40 : ti_MOK 5 40 (0, hX9_open, 2, 2, yX9_open) := ⟨ti_in 509 (by decide +kernel) (by decide +kernel), ti_in 88 (by decide +kernel) (by decide +kernel), by decide, rfl, ⟨by decide +kernel, by decide +kernel⟩, by decide, Or.inl ⟨rfl, ti_in 602 (by decide +kernel) (by decide +kernel), ti_in 507 (by decide +kernel) (by decide +kernel), ti_in 508 (by decide +kernel) (by decide +kernel), ⟨TX9, 5, rfl⟩, 1, rfl, by decide +kernel⟩⟩
set_option maxRecDepth 100000 in
theorem ti_m_5_46 : ti_MOK 5 46 (0, hX9_size, 1, 1, yX9_size) := ⟨ti_in 548 (by decide +kernel) (by decide +kernel), ti_in 88 (by decide +kernel) (by decide +kernel), by decide, rfl, ⟨by decide +kernel, by decide +kernel⟩, by decide, Or.inl ⟨rfl, ti_in 603 (by decide +kernel) (by decide +kernel), ti_in 546 (by decide +kernel) (by decide +kernel), ti_in 547 (by decide +kernel) (by decide +kernel), ⟨TX9, 5, rfl⟩, 0, rfl, by decide +kernel⟩⟩
set_option maxRecDepth 100000 in
theorem ti_m_5_48 : ti_MOK 5 48 (0, hX5_readJoined, 7, 4, yX5_readJoined) := ⟨ti_in 607 (by decide +kernel) (by decide +kernel), ti_in 98 (by decide +kernel) (by decide +kernel), by decide, rfl, ⟨by decide +kernel, by decide +kernel⟩, by decide, Or.inl ⟨rfl, ti_in 604 (by decide +kernel) (by decide +kernel), ti_in 606 (by decide +kernel) (by decide +kernel), ti_in 2 (by decide +kernel) (by decide +kernel), ⟨TX5, 4, rfl⟩, 3, rfl, by decide +kernel⟩⟩
set_option maxRecDepth 100000 in
theorem ti_m_5_52 : ti_MOK 5 52 (0, hX9_close, 2, 1, yX9_close) := ⟨ti_in 533 (by decide +kernel) (by decide +kernel), ti_in 88 (by decide +kernel) (by decide +kernel), by decide, rfl, ⟨by decide +kernel, by decide +kernel⟩, by decide, Or.inl ⟨rfl, ti_in 714 (by decide +kernel) (by decide +kernel), ti_in 531 (by decide +kernel) (by decide +kernel), ti_in 532 (by decide +kernel) (by decide +kernel), ⟨TX9, 5, rfl⟩, 0, rfl, by decide +kernel⟩⟩
set_option maxRecDepth 100000 in
theorem ti_m_5_55 : ti_MOK 5 55 (0, hX5_readThing, 5, 3, yX5_readThing) := ⟨ti_in 611 (by decide +kernel) (by decide +kernel), ti_in 98 (by decide +kernel) (by decide +kernel), by decide, rfl, ⟨by decide +kernel, by decide +kernel⟩, by decide, Or.inl ⟨rfl, ti_in 608 (by decide +kernel) (by decide +kernel), ti_in 610 (by decide +kernel) (by decide +kernel), ti_in 3 (by decide +kernel) (by decide +kernel), ⟨TX5, 4, rfl⟩, 2, rfl, by decide +kernel⟩⟩
set_option maxRecDepth 100000 in
theorem ti_m_5_59 : ti_MOK 5 59 (0, hX9_peek, 1, 1, yX9_peek) := ⟨ti_in 520 (by decide +kernel) (by decide +kernel), ti_in 88 (by decide +kernel) (by decide +kernel), by decide, rfl, ⟨by decide +kernel, by decide +kernel⟩, by decide, Or.inl ⟨rfl, ti_in 613 (by decide +kernel) (by decide +kernel), ti_in 518 (by decide +kernel) (by decide +kernel), ti_in 519 (by decide +kernel) (by decide +kernel), ⟨TX9, 5, rfl⟩, 0, rfl, by decide +kernel⟩⟩
set_option maxRecDepth 100000 in
theorem ti_m_5_62 : ti_MOK 5 62 (1, hX5_levelOf, 1, 1, yX5_levelOf) := ⟨ti_in 713 (by decide +kernel) (by decide +kernel), ti_in 98 (by decide +kernel) (by decide +kernel), by decide, rfl, ⟨by decide +kernel, by decide +kernel⟩, by decide, Or.inr (Or.inl ⟨rfl, ti_in 711 (by decide +kernel) (by decide +kernel), ti_in 712 (by decide +kernel) (by decide +kernel), by decide +kernel⟩)⟩
set_option maxRecDepth 100000 in
theorem ti_m_5_65 : ti_MOK 5 65 (0, hX9_skip, 1, 1, yX9_skip) := ⟨ti_in 524 (by decide +kernel) (by decide +kernel), ti_in 88 (by decide +kernel) (by decide +kernel), by decide, rfl, ⟨by decide +kernel, by decide +kernel⟩, by decide, Or.inl ⟨rfl, ti_in 619 (by decide +kernel) (by decide +kernel), ti_in 522 (by decide +kernel) (by decide +kernel), ti_in 523 (by decide +kernel) (by decide +kernel), ⟨TX9, 5, rfl⟩, 0, rfl, by decide +kernel⟩⟩
set_option maxRecDepth 100000 in
theorem ti_m_5_68 : ti_MOK 5 68 (0, hX5_add, 2, 2, yX5_add) := ⟨ti_in 618 (by decide +kernel) (by decide +kernel), ti_in 98 (by decide +kernel) (by decide +kernel), by decide, rfl, ⟨by decide +kernel, by decide +kernel⟩, by decide, Or.inl ⟨rfl, ti_in 615 (by decide +kernel) (by decide +kernel), ti_in 617 (by decide +kernel) (by decide +kernel), ti_in 4 (by decide +kernel) (by decide +kernel), ⟨TX5, 4, rfl⟩, 1, rfl, by decide +kernel⟩⟩
set_option maxRecDepth 100000 in
theorem ti_m_5_71 : ti_MOK 5 71 (0, hX9_passes, 3, 2, yX9_passes) := ⟨ti_in 567 (by decide +kernel) (by decide +kernel), ti_in 88 (by decide +kernel) (by decide +kernel), by decide, rfl, ⟨by decide +kernel, by decide +kernel⟩, by decide, Or.inl ⟨rfl, ti_in 612 (by decide +kernel) (by decide +kernel), ti_in 565 (by decide +kernel) (by decide +kernel), ti_in 566 (by decide +kernel) (by decide +kernel), ⟨TX9, 5, rfl⟩, 1, rfl, by decide +kernel⟩⟩
set_option maxRecDepth 100000 in
theorem ti_m_5_75 : ti_MOK 5 75 (0, hX9_readNumber, 7, 4, yX9_readNumber) := ⟨ti_in 516 (by decide +kernel) (by decide +kernel), ti_in 88 (by decide +kernel) (by decide +kernel), by decide, rfl, ⟨by decide +kernel, by decide +kernel⟩, by decide, Or.inl ⟨rfl, ti_in 614 (by decide +kernel) (by decide +kernel), ti_in 514 (by decide +kernel) (by decide +kernel), ti_in 515 (by decide +kernel) (by decide +kernel), ⟨TX9, 5, rfl⟩, 3, rfl, by decide +kernel⟩⟩
set_option maxRecDepth 100000 in
theorem ti_m_5_78 : ti_MOK 5 78 (0, hX9_require, 2, 2, yX9_require) := ⟨ti_in 563 (by decide +kernel) (by decide +kernel), ti_in 88 (by decide +kernel) (by decide +kernel), by decide, rfl, ⟨by decide +kernel, by decide +kernel⟩, by decide, Or.inl ⟨rfl, ti_in 620 (by decide +kernel) (by decide +kernel), ti_in 561 (by decide +kernel) (by decide +kernel), ti_in 562 (by decide +kernel) (by decide +kernel), ⟨TX9, 5, rfl⟩, 1, rfl, by decide +kernel⟩⟩
set_option maxRecDepth 100000 in
theorem ti_m_5_81 : ti_MOK 5 81 (0, hX5_readName, 4, 3, yX5_readName) := ⟨ti_in 624 (by decide +kernel) (by decide +kernel), ti_in 98 (by decide +kernel) (by decide +kernel), by decide, rfl, ⟨by decide +kernel, by decide +kernel⟩, by decide, Or.inl ⟨rfl, ti_in 621 (by decide +kernel) (by decide +kernel), ti_in 623 (by decide +kernel) (by decide +kernel), ti_in 5 (by decide +kernel) (by decide +kernel), ⟨TX5, 4, rfl⟩, 2, rfl, by decide +kernel⟩⟩
set_option maxRecDepth 100000 in
theorem ti_m_5_91 : ti_MOK 5 91 (0, hX9_refuse, 1, 1, yX9_refuse) := ⟨ti_in 528 (by decide +kernel) (by decide +kernel), ti_in 88 (by decide +kernel) (by decide +kernel), by decide, rfl, ⟨by decide +kernel, by decide +kernel⟩, by decide, Or.inl ⟨rfl, ti_in 710 (by decide +kernel) (by decide +kernel), ti_in 526 (by decide +kernel) (by decide +kernel), ti_in 527 (by decide +kernel) (by decide +kernel), ⟨TX9, 5, rfl⟩, 0, rfl, by decide +kernel⟩⟩
theorem ti_mok_5 : ∀ e ∈ ti_mr_5, ti_MOK 5 e.1 e.2 := List.forall_mem_cons.mpr ⟨ti_m_5_25, List.forall_mem_cons.mpr ⟨ti_m_5_29, List.forall_mem_cons.mpr ⟨ti_m_5_33, List.forall_mem_cons.mpr ⟨ti_m_5_36, List.forall_mem_cons.mpr ⟨ti_m_5_40, List.forall_mem_cons.mpr ⟨ti_m_5_46, List.forall_mem_cons.mpr ⟨ti_m_5_48, List.forall_mem_cons.mpr ⟨ti_m_5_52, List.forall_mem_cons.mpr ⟨ti_m_5_55, List.forall_mem_cons.mpr ⟨ti_m_5_59, List.forall_mem_cons.mpr ⟨ti_m_5_62, List.forall_mem_cons.mpr ⟨ti_m_5_65, List.forall_mem_cons.mpr ⟨ti_m_5_68, List.forall_mem_cons.mpr ⟨ti_m_5_71, List.forall_mem_cons.mpr ⟨ti_m_5_75, List.forall_mem_cons.mpr ⟨ti_m_5_78, List.forall_mem_cons.mpr ⟨ti_m_5_81, List.forall_mem_cons.mpr ⟨ti_m_5_91, fun _ h => absurd h List.not_mem_nil⟩⟩⟩⟩⟩⟩⟩⟩⟩⟩⟩⟩⟩⟩⟩⟩⟩⟩
theorem ti_b_5_86 : ti_BOK 5 86 4 := ⟨fun h => absurd h (by decide), fun h => absurd h (by decide), fun h => absurd h (by decide), fun h => absurd h (by decide), fun _ => ⟨rfl, ti_in 626 (by decide +kernel) (by decide +kernel)⟩⟩
theorem ti_bok_5 : ∀ e ∈ ti_br_5, ti_BOK 5 e.1 e.2 := List.forall_mem_cons.mpr ⟨ti_b_5_86, fun _ h => absurd h List.not_mem_nil⟩
theorem ti_f_6_9 : ti_FOK 6 9 6 0 2 := ⟨RX6, TX6, 5, rfl, by decide, rfl, Or.inl (ti_in 209 (by decide +kernel) (by decide +kernel)), fun h => absurd h (by decide), fun h => absurd h (by decide), fun h => absurd h (by decide)⟩
theorem ti_f_6_15 : ti_FOK 6 15 6 1 2 := ⟨RX6, TX6, 5, rfl, by decide, rfl, Or.inl (ti_in 211 (by decide +kernel) (by decide +kernel)), fun h => absurd h (by decide), fun h => absurd h (by decide), fun h => absurd h (by decide)⟩
theorem ti_f_6_18 : ti_FOK 6 18 6 2 2 := ⟨RX6, TX6, 5, rfl, by decide, rfl, Or.inl (ti_in 213 (by decide +kernel) (by decide +kernel)), fun h => absurd h (by decide), fun h => absurd h (by decide), fun h => absurd h (by decide)⟩
theorem ti_f_6_21 : ti_FOK 6 21 6 4 0 := ⟨RX6, TX6, 5, rfl, by decide, rfl, Or.inl (ti_in 221 (by decide +kernel) (by decide +kernel)), fun _ => ⟨rfl, by decide +kernel⟩, fun h => absurd h (by decide), fun h => absurd h (by decide)⟩
theorem ti_f_6_25 : ti_FOK 6 25 6 3 0 := ⟨RX6, TX6, 5, rfl, by decide, rfl, Or.inl (ti_in 217 (by decide +kernel) (by decide +kernel)), fun _ => ⟨rfl, by decide +kernel⟩, fun h => absurd h (by decide), fun h => absurd h (by decide)⟩
theorem ti_fok_6 : ∀ e ∈ ti_fr_6, ti_FOK 6 e.1 e.2.1 e.2.2.1 e.2.2.2 := List.forall_mem_cons.mpr ⟨ti_f_6_9, List.forall_mem_cons.mpr ⟨ti_f_6_15, List.forall_mem_cons.mpr ⟨ti_f_6_18, List.forall_mem_cons.mpr ⟨ti_f_6_21, List.forall_mem_cons.mpr ⟨ti_f_6_25, fun _ h => absurd h List.not_mem_nil⟩⟩⟩⟩⟩
set_option maxRecDepth 100000 in
theorem ti_m_6_28 : ti_MOK 6 28 (0, hX6_sumOf, 5, 3, yX6_sumOf) := ⟨ti_in 1082 (by decide +kernel) (by decide +kernel), ti_in 92 (by decide +kernel) (by decide +kernel), by decide, rfl, ⟨by decide +kernel, by decide +kernel⟩, by decide, Or.inl ⟨rfl, ti_in 1079 (by decide +kernel) (by decide +kernel), ti_in 1081 (by decide +kernel) (by decide +kernel), ti_in 18 (by decide +kernel) (by decide +kernel), ⟨TX6, 5, rfl⟩, 2, rfl, by decide +kernel⟩⟩
set_option maxRecDepth 100000 in
theorem ti_m_6_32 : ti_MOK 6 32 (0, hX6_isTrue, 2, 2, yX6_isTrue) := ⟨ti_in 875 (by decide +kernel) (by decide +kernel), ti_in 92 (by decide +kernel) (by decide +kernel), by decide, rfl, ⟨by decide +kernel, by decide +kernel⟩, by decide, Or.inl ⟨rfl, ti_in 872 (by decide +kernel) (by decide +kernel), ti_in 873 (by decide +kernel) (by decide +kernel), ti_in 874 (by decide +kernel) (by decide +kernel), ⟨TX6, 5, rfl⟩, 1, rfl, by decide +kernel⟩⟩
set_option maxRecDepth 100000 in
theorem ti_m_6_36 : ti_MOK 6 36 (2, hX11_within, 3, 3, yX11_within) := ⟨ti_in 762 (by decide +kernel) (by decide +kernel), ti_in 87 (by decide +kernel) (by decide +kernel), by decide, rfl, ⟨by decide +kernel, by decide +kernel⟩, by decide, Or.inr (Or.inr ⟨rfl, ⟨"SixToCarry", ti_inN 876 (by decide +kernel) (by decide +kernel)⟩, ti_in 761 (by decide +kernel) (by decide +kernel), by decide +kernel⟩)⟩
set_option maxRecDepth 100000 in
theorem ti_m_6_40 : ti_MOK 6 40 (0, hX9_open, 2, 2, yX9_open) := ⟨ti_in 509 (by decide +kernel) (by decide +kernel), ti_in 88 (by decide +kernel) (by decide +kernel), by decide, rfl, ⟨by decide +kernel, by decide +kernel⟩, by decide, Or.inl ⟨rfl, ti_in 578 (by decide +kernel) (by decide +kernel), ti_in 507 (by decide +kernel) (by decide +kernel), ti_in 508 (by decide +kernel) (by decide +kernel), ⟨TX9, 5, rfl⟩, 1, rfl, by decide +kernel⟩⟩
set_option maxRecDepth 100000 in
theorem ti_m_6_46 : ti_MOK 6 46 (0, hX6_readLine, 3, 3, yX6_readLine) := ⟨ti_in 582 (by decide +kernel) (by decide +kernel), ti_in 92 (by decide +kernel) (by decide +kernel), by decide, rfl, ⟨by decide +kernel, by decide +kernel⟩, by decide, Or.inl ⟨rfl, ti_in 579 (by decide +kernel) (by decide +kernel), ti_in 581 (by decide +kernel) (by decide +kernel), ti_in 1 (by decide +kernel) (by decide +kernel), ⟨TX6, 5, rfl⟩, 2, rfl, by decide +kernel⟩⟩
set_option maxRecDepth 100000 in
theorem ti_m_6_50 : ti_MOK 6 50 (0, hX9_passes, 3, 2, yX9_passes) := ⟨ti_in 567 (by decide +kernel) (by decide +kernel), ti_in 88 (by decide +kernel) (by decide +kernel), by decide, rfl, ⟨by decide +kernel, by decide +kernel⟩, by decide, Or.inl ⟨rfl, ti_in 585 (by decide +kernel) (by decide +kernel), ti_in 565 (by decide +kernel) (by decide +kernel), ti_in 566 (by decide +kernel) (by decide +kernel), ⟨TX9, 5, rfl⟩, 1, rfl, by decide +kernel⟩⟩
set_option maxRecDepth 100000 in
theorem ti_m_6_53 : ti_MOK 6 53 (0, hX9_refuse, 1, 1, yX9_refuse) := ⟨ti_in 528 (by decide +kernel) (by decide +kernel), ti_in 88 (by decide +kernel) (by decide +kernel), by decide, rfl, ⟨by decide +kernel, by decide +kernel⟩, by decide, Or.inl ⟨rfl, ti_in 583 (by decide +kernel) (by decide +kernel), ti_in 526 (by decide +kernel) (by decide +kernel), ti_in 527 (by decide +kernel) (by decide +kernel), ⟨TX9, 5, rfl⟩, 0, rfl, by decide +kernel⟩⟩
set_option maxRecDepth 100000 in
theorem ti_m_6_56 : ti_MOK 6 56 (0, hX9_readNumber, 7, 4, yX9_readNumber) := ⟨ti_in 516 (by decide +kernel) (by decide +kernel), ti_in 88 (by decide +kernel) (by decide +kernel), by decide, rfl, ⟨by decide +kernel, by decide +kernel⟩, by decide, Or.inl ⟨rfl, ti_in 584 (by decide +kernel) (by decide +kernel), ti_in 514 (by decide +kernel) (by decide +kernel), ti_in 515 (by decide +kernel) (by decide +kernel), ⟨TX9, 5, rfl⟩, 3, rfl, by decide +kernel⟩⟩
set_option maxRecDepth 100000 in
theorem ti_m_6_59 : ti_MOK 6 59 (0, hX9_require, 2, 2, yX9_require) := ⟨ti_in 563 (by decide +kernel) (by decide +kernel), ti_in 88 (by decide +kernel) (by decide +kernel), by decide, rfl, ⟨by decide +kernel, by decide +kernel⟩, by decide, Or.inl ⟨rfl, ti_in 586 (by decide +kernel) (by decide +kernel), ti_in 561 (by decide +kernel) (by decide +kernel), ti_in 562 (by decide +kernel) (by decide +kernel), ⟨TX9, 5, rfl⟩, 1, rfl, by decide +kernel⟩⟩
set_option maxRecDepth 100000 in
theorem ti_m_6_62 : ti_MOK 6 62 (1, hX6_readKnowers, 4, 1, yX6_readKnowers) := ⟨ti_in 589 (by decide +kernel) (by decide +kernel), ti_in 92 (by decide +kernel) (by decide +kernel), by decide, rfl, ⟨by decide +kernel, by decide +kernel⟩, by decide, Or.inr (Or.inl ⟨rfl, ti_in 587 (by decide +kernel) (by decide +kernel), ti_in 588 (by decide +kernel) (by decide +kernel), by decide +kernel⟩)⟩
set_option maxRecDepth 100000 in
theorem ti_m_6_66 : ti_MOK 6 66 (0, hX9_passSeventh, 3, 2, yX9_passSeventh) := ⟨ti_in 593 (by decide +kernel) (by decide +kernel), ti_in 88 (by decide +kernel) (by decide +kernel), by decide, rfl, ⟨by decide +kernel, by decide +kernel⟩, by decide, Or.inl ⟨rfl, ti_in 590 (by decide +kernel) (by decide +kernel), ti_in 591 (by decide +kernel) (by decide +kernel), ti_in 592 (by decide +kernel) (by decide +kernel), ⟨TX9, 5, rfl⟩, 1, rfl, by decide +kernel⟩⟩
theorem ti_mok_6 : ∀ e ∈ ti_mr_6, ti_MOK 6 e.1 e.2 := List.forall_mem_cons.mpr ⟨ti_m_6_28, List.forall_mem_cons.mpr ⟨ti_m_6_32, List.forall_mem_cons.mpr ⟨ti_m_6_36, List.forall_mem_cons.mpr ⟨ti_m_6_40, List.forall_mem_cons.mpr ⟨ti_m_6_46, List.forall_mem_cons.mpr ⟨ti_m_6_50, List.forall_mem_cons.mpr ⟨ti_m_6_53, List.forall_mem_cons.mpr ⟨ti_m_6_56, List.forall_mem_cons.mpr ⟨ti_m_6_59, List.forall_mem_cons.mpr ⟨ti_m_6_62, List.forall_mem_cons.mpr ⟨ti_m_6_66, fun _ h => absurd h List.not_mem_nil⟩⟩⟩⟩⟩⟩⟩⟩⟩⟩⟩
theorem ti_bok_6 : ∀ e ∈ ti_br_6, ti_BOK 6 e.1 e.2 := fun _ h => absurd h List.not_mem_nil
theorem ti_f_7_9 : ti_FOK 7 9 7 0 2 := ⟨RX7, TX7, 8, rfl, by decide, rfl, Or.inl (ti_in 242 (by decide +kernel) (by decide +kernel)), fun h => absurd h (by decide), fun h => absurd h (by decide), fun h => absurd h (by decide)⟩
theorem ti_f_7_15 : ti_FOK 7 15 7 2 0 := ⟨RX7, TX7, 8, rfl, by decide, rfl, Or.inl (ti_in 251 (by decide +kernel) (by decide +kernel)), fun _ => ⟨rfl, by decide +kernel⟩, fun h => absurd h (by decide), fun h => absurd h (by decide)⟩
theorem ti_f_7_25 : ti_FOK 7 25 7 1 0 := ⟨RX7, TX7, 8, rfl, by decide, rfl, Or.inl (ti_in 247 (by decide +kernel) (by decide +kernel)), fun _ => ⟨rfl, by decide +kernel⟩, fun h => absurd h (by decide), fun h => absurd h (by decide)⟩
theorem ti_f_7_28 : ti_FOK 7 28 7 3 0 := ⟨RX7, TX7, 8, rfl, by decide, rfl, Or.inl (ti_in 255 (by decide +kernel) (by decide +kernel)), fun _ => ⟨rfl, by decide +kernel⟩, fun h => absurd h (by decide), fun h => absurd h (by decide)⟩
theorem ti_f_7_31 : ti_FOK 7 31 7 4 0 := ⟨RX7, TX7, 8, rfl, by decide, rfl, Or.inl (ti_in 259 (by decide +kernel) (by decide +kernel)), fun _ => ⟨rfl, by decide +kernel⟩, fun h => absurd h (by decide), fun h => absurd h (by decide)⟩
theorem ti_f_7_34 : ti_FOK 7 34 7 5 0 := ⟨RX7, TX7, 8, rfl, by decide, rfl, Or.inl (ti_in 262 (by decide +kernel) (by decide +kernel)), fun _ => ⟨rfl, by decide +kernel⟩, fun h => absurd h (by decide), fun h => absurd h (by decide)⟩
theorem ti_f_7_37 : ti_FOK 7 37 7 6 1 := ⟨RX7, TX7, 8, rfl, by decide, rfl, Or.inl (ti_in 265 (by decide +kernel) (by decide +kernel)), fun h => absurd h (by decide), fun _ => ⟨rfl, by decide +kernel⟩, fun h => absurd h (by decide)⟩
theorem ti_f_7_41 : ti_FOK 7 41 7 7 0 := ⟨RX7, TX7, 8, rfl, by decide, rfl, Or.inl (ti_in 268 (by decide +kernel) (by decide +kernel)), fun _ => ⟨rfl, by decide +kernel⟩, fun h => absurd h (by decide), fun h => absurd h (by decide)⟩
theorem ti_f_7_44 : ti_FOK 7 44 10 2 0 := ⟨RX10, TX10, 3, rfl, by decide, rfl, Or.inr ⟨"SixToCarry", ti_inN 167 (by decide +kernel) (by decide +kernel)⟩, fun _ => ⟨rfl, by decide +kernel⟩, fun h => absurd h (by decide), fun h => absurd h (by decide)⟩
theorem ti_f_7_59 : ti_FOK 7 59 0 3 0 := ⟨RX0, TX0, 4, rfl, by decide, rfl, Or.inr ⟨"SixToCarry", ti_inN 191 (by decide +kernel) (by decide +kernel)⟩, fun _ => ⟨rfl, by decide +kernel⟩, fun h => absurd h (by decide), fun h => absurd h (by decide)⟩
theorem ti_f_7_90 : ti_FOK 7 90 6 2 2 := ⟨RX6, TX6, 5, rfl, by decide, rfl, Or.inr ⟨"SixToCarry", ti_inN 215 (by decide +kernel) (by decide +kernel)⟩, fun h => absurd h (by decide), fun h => absurd h (by decide), fun h => absurd h (by decide)⟩
theorem ti_fok_7 : ∀ e ∈ ti_fr_7, ti_FOK 7 e.1 e.2.1 e.2.2.1 e.2.2.2 := List.forall_mem_cons.mpr ⟨ti_f_7_9, List.forall_mem_cons.mpr ⟨ti_f_7_15, List.forall_mem_cons.mpr ⟨ti_f_7_25, List.forall_mem_cons.mpr ⟨ti_f_7_28, List.forall_mem_cons.mpr ⟨ti_f_7_31, List.forall_mem_cons.mpr ⟨ti_f_7_34, List.forall_mem_cons.mpr ⟨ti_f_7_37, List.forall_mem_cons.mpr ⟨ti_f_7_41, List.forall_mem_cons.mpr ⟨ti_f_7_44, List.forall_mem_cons.mpr ⟨ti_f_7_59, List.forall_mem_cons.mpr ⟨ti_f_7_90, fun _ h => absurd h List.not_mem_nil⟩⟩⟩⟩⟩⟩⟩⟩⟩⟩⟩
set_option maxRecDepth 100000 in
theorem ti_m_7_49 : ti_MOK 7 49 (0, hX0_forceOf, 9, 4, yX0_forceOf) := ⟨ti_in 749 (by decide +kernel) (by decide +kernel), ti_in 91 (by decide +kernel) (by decide +kernel), by decide, rfl, ⟨by decide +kernel, by decide +kernel⟩, by decide, Or.inl ⟨rfl, ti_in 811 (by decide +kernel) (by decide +kernel), ti_in 747 (by decide +kernel) (by decide +kernel), ti_in 748 (by decide +kernel) (by decide +kernel), ⟨TX0, 4, rfl⟩, 3, rfl, by decide +kernel⟩⟩
set_option maxRecDepth 100000 in
theorem ti_m_7_55 : ti_MOK 7 55 (0, hX10_steepAt, 2, 2, yX10_steepAt) := ⟨ti_in 723 (by decide +kernel) (by decide +kernel), ti_in 90 (by decide +kernel) (by decide +kernel), by decide, rfl, ⟨by decide +kernel, by decide +kernel⟩, by decide, Or.inl ⟨rfl, ti_in 812 (by decide +kernel) (by decide +kernel), ti_in 721 (by decide +kernel) (by decide +kernel), ti_in 722 (by decide +kernel) (by decide +kernel), ⟨TX10, 3, rfl⟩, 1, rfl, by decide +kernel⟩⟩
set_option maxRecDepth 100000 in
theorem ti_m_7_62 : ti_MOK 7 62 (0, hX7_moveOn, 5, 3, yX7_moveOn) := ⟨ti_in 816 (by decide +kernel) (by decide +kernel), ti_in 93 (by decide +kernel) (by decide +kernel), by decide, rfl, ⟨by decide +kernel, by decide +kernel⟩, by decide, Or.inl ⟨rfl, ti_in 813 (by decide +kernel) (by decide +kernel), ti_in 814 (by decide +kernel) (by decide +kernel), ti_in 815 (by decide +kernel) (by decide +kernel), ⟨TX7, 8, rfl⟩, 2, rfl, by decide +kernel⟩⟩
set_option maxRecDepth 100000 in
theorem ti_m_7_66 : ti_MOK 7 66 (2, hX11_within, 3, 3, yX11_within) := ⟨ti_in 762 (by decide +kernel) (by decide +kernel), ti_in 87 (by decide +kernel) (by decide +kernel), by decide, rfl, ⟨by decide +kernel, by decide +kernel⟩, by decide, Or.inr (Or.inr ⟨rfl, ⟨"SixToCarry", ti_inN 817 (by decide +kernel) (by decide +kernel)⟩, ti_in 761 (by decide +kernel) (by decide +kernel), by decide +kernel⟩)⟩
set_option maxRecDepth 100000 in
theorem ti_m_7_70 : ti_MOK 7 70 (0, hX0_has, 2, 2, yX0_has) := ⟨ti_in 834 (by decide +kernel) (by decide +kernel), ti_in 91 (by decide +kernel) (by decide +kernel), by decide, rfl, ⟨by decide +kernel, by decide +kernel⟩, by decide, Or.inl ⟨rfl, ti_in 831 (by decide +kernel) (by decide +kernel), ti_in 832 (by decide +kernel) (by decide +kernel), ti_in 833 (by decide +kernel) (by decide +kernel), ⟨TX0, 4, rfl⟩, 1, rfl, by decide +kernel⟩⟩
set_option maxRecDepth 100000 in
theorem ti_m_7_74 : ti_MOK 7 74 (1, hJ6_bitCount_0f7a4, 1, 1, yJ6_bitCount_0f7a4) := ⟨ti_in 726 (by decide +kernel) (by decide +kernel), ti_in 111 (by decide +kernel) (by decide +kernel), by decide, rfl, ⟨by decide +kernel, by decide +kernel⟩, by decide, Or.inr (Or.inl ⟨rfl, ti_in 835 (by decide +kernel) (by decide +kernel), ti_in 725 (by decide +kernel) (by decide +kernel), by decide +kernel⟩)⟩
set_option maxRecDepth 100000 in
theorem ti_m_7_79 : ti_MOK 7 79 (0, hX6_has, 2, 2, yX6_has) := ⟨ti_in 863 (by decide +kernel) (by decide +kernel), ti_in 92 (by decide +kernel) (by decide +kernel), by decide, rfl, ⟨by decide +kernel, by decide +kernel⟩, by decide, Or.inl ⟨rfl, ti_in 860 (by decide +kernel) (by decide +kernel), ti_in 861 (by decide +kernel) (by decide +kernel), ti_in 862 (by decide +kernel) (by decide +kernel), ⟨TX6, 5, rfl⟩, 1, rfl, by decide +kernel⟩⟩
set_option maxRecDepth 100000 in
theorem ti_m_7_82 : ti_MOK 7 82 (0, hX7_hindranceTo, 4, 4, yX7_hindranceTo) := ⟨ti_in 867 (by decide +kernel) (by decide +kernel), ti_in 93 (by decide +kernel) (by decide +kernel), by decide, rfl, ⟨by decide +kernel, by decide +kernel⟩, by decide, Or.inl ⟨rfl, ti_in 864 (by decide +kernel) (by decide +kernel), ti_in 865 (by decide +kernel) (by decide +kernel), ti_in 866 (by decide +kernel) (by decide +kernel), ⟨TX7, 8, rfl⟩, 3, rfl, by decide +kernel⟩⟩
set_option maxRecDepth 100000 in
theorem ti_m_7_86 : ti_MOK 7 86 (0, hX6_loadAfter, 3, 3, yX6_loadAfter) := ⟨ti_in 871 (by decide +kernel) (by decide +kernel), ti_in 92 (by decide +kernel) (by decide +kernel), by decide, rfl, ⟨by decide +kernel, by decide +kernel⟩, by decide, Or.inl ⟨rfl, ti_in 868 (by decide +kernel) (by decide +kernel), ti_in 869 (by decide +kernel) (by decide +kernel), ti_in 870 (by decide +kernel) (by decide +kernel), ⟨TX6, 5, rfl⟩, 2, rfl, by decide +kernel⟩⟩
theorem ti_mok_7 : ∀ e ∈ ti_mr_7, ti_MOK 7 e.1 e.2 := List.forall_mem_cons.mpr ⟨ti_m_7_49, List.forall_mem_cons.mpr ⟨ti_m_7_55, List.forall_mem_cons.mpr ⟨ti_m_7_62, List.forall_mem_cons.mpr ⟨ti_m_7_66, List.forall_mem_cons.mpr ⟨ti_m_7_70, List.forall_mem_cons.mpr ⟨ti_m_7_74, List.forall_mem_cons.mpr ⟨ti_m_7_79, List.forall_mem_cons.mpr ⟨ti_m_7_82, List.forall_mem_cons.mpr ⟨ti_m_7_86, fun _ h => absurd h List.not_mem_nil⟩⟩⟩⟩⟩⟩⟩⟩⟩
theorem ti_b_7_19 : ti_BOK 7 19 3 := ⟨fun h => absurd h (by decide), fun h => absurd h (by decide), fun h => absurd h (by decide), fun _ => ti_in 806 (by decide +kernel) (by decide +kernel), fun h => absurd h (by decide)⟩
theorem ti_bok_7 : ∀ e ∈ ti_br_7, ti_BOK 7 e.1 e.2 := List.forall_mem_cons.mpr ⟨ti_b_7_19, fun _ h => absurd h List.not_mem_nil⟩
theorem ti_f_8_9 : ti_FOK 8 9 8 0 2 := ⟨RX8, TX8, 4, rfl, by decide, rfl, Or.inl (ti_in 359 (by decide +kernel) (by decide +kernel)), fun h => absurd h (by decide), fun h => absurd h (by decide), fun h => absurd h (by decide)⟩
theorem ti_f_8_15 : ti_FOK 8 15 8 1 2 := ⟨RX8, TX8, 4, rfl, by decide, rfl, Or.inl (ti_in 360 (by decide +kernel) (by decide +kernel)), fun h => absurd h (by decide), fun h => absurd h (by decide), fun h => absurd h (by decide)⟩
theorem ti_f_8_19 : ti_FOK 8 19 8 2 2 := ⟨RX8, TX8, 4, rfl, by decide, rfl, Or.inl (ti_in 361 (by decide +kernel) (by decide +kernel)), fun h => absurd h (by decide), fun h => absurd h (by decide), fun h => absurd h (by decide)⟩
theorem ti_f_8_23 : ti_FOK 8 23 7 2 0 := ⟨RX7, TX7, 8, rfl, by decide, rfl, Or.inr ⟨"SixToCarry", ti_inN 252 (by decide +kernel) (by decide +kernel)⟩, fun _ => ⟨rfl, by decide +kernel⟩, fun h => absurd h (by decide), fun h => absurd h (by decide)⟩
theorem ti_f_8_29 : ti_FOK 8 29 7 1 0 := ⟨RX7, TX7, 8, rfl, by decide, rfl, Or.inr ⟨"SixToCarry", ti_inN 246 (by decide +kernel) (by decide +kernel)⟩, fun _ => ⟨rfl, by decide +kernel⟩, fun h => absurd h (by decide), fun h => absurd h (by decide)⟩
theorem ti_f_8_48 : ti_FOK 8 48 8 3 0 := ⟨RX8, TX8, 4, rfl, by decide, rfl, Or.inl (ti_in 362 (by decide +kernel) (by decide +kernel)), fun _ => ⟨rfl, by decide +kernel⟩, fun h => absurd h (by decide), fun h => absurd h (by decide)⟩
theorem ti_f_8_51 : ti_FOK 8 51 0 3 0 := ⟨RX0, TX0, 4, rfl, by decide, rfl, Or.inr ⟨"SixToCarry", ti_inN 192 (by decide +kernel) (by decide +kernel)⟩, fun _ => ⟨rfl, by decide +kernel⟩, fun h => absurd h (by decide), fun h => absurd h (by decide)⟩
theorem ti_f_8_78 : ti_FOK 8 78 7 3 0 := ⟨RX7, TX7, 8, rfl, by decide, rfl, Or.inr ⟨"SixToCarry", ti_inN 257 (by decide +kernel) (by decide +kernel)⟩, fun _ => ⟨rfl, by decide +kernel⟩, fun h => absurd h (by decide), fun h => absurd h (by decide)⟩
theorem ti_f_8_81 : ti_FOK 8 81 0 2 2 := ⟨RX0, TX0, 4, rfl, by decide, rfl, Or.inr ⟨"SixToCarry", ti_inN 187 (by decide +kernel) (by decide +kernel)⟩, fun h => absurd h (by decide), fun h => absurd h (by decide), fun h => absurd h (by decide)⟩
theorem ti_fok_8 : ∀ e ∈ ti_fr_8, ti_FOK 8 e.1 e.2.1 e.2.2.1 e.2.2.2 := List.forall_mem_cons.mpr ⟨ti_f_8_9, List.forall_mem_cons.mpr ⟨ti_f_8_15, List.forall_mem_cons.mpr ⟨ti_f_8_19, List.forall_mem_cons.mpr ⟨ti_f_8_23, List.forall_mem_cons.mpr ⟨ti_f_8_29, List.forall_mem_cons.mpr ⟨ti_f_8_48, List.forall_mem_cons.mpr ⟨ti_f_8_51, List.forall_mem_cons.mpr ⟨ti_f_8_78, List.forall_mem_cons.mpr ⟨ti_f_8_81, fun _ h => absurd h List.not_mem_nil⟩⟩⟩⟩⟩⟩⟩⟩⟩
set_option maxRecDepth 100000 in
theorem ti_m_8_32 : ti_MOK 8 32 (0, hX10_steepAt, 2, 2, yX10_steepAt) := ⟨ti_in 723 (by decide +kernel) (by decide +kernel), ti_in 90 (by decide +kernel) (by decide +kernel), by decide, rfl, ⟨by decide +kernel, by decide +kernel⟩, by decide, Or.inl ⟨rfl, ti_in 1013 (by decide +kernel) (by decide +kernel), ti_in 721 (by decide +kernel) (by decide +kernel), ti_in 722 (by decide +kernel) (by decide +kernel), ⟨TX10, 3, rfl⟩, 1, rfl, by decide +kernel⟩⟩
set_option maxRecDepth 100000 in
theorem ti_m_8_38 : ti_MOK 8 38 (0, hX8_strongestOf, 7, 4, yX8_strongestOf) := ⟨ti_in 996 (by decide +kernel) (by decide +kernel), ti_in 96 (by decide +kernel) (by decide +kernel), by decide, rfl, ⟨by decide +kernel, by decide +kernel⟩, by decide, Or.inl ⟨rfl, ti_in 993 (by decide +kernel) (by decide +kernel), ti_in 995 (by decide +kernel) (by decide +kernel), ti_in 15 (by decide +kernel) (by decide +kernel), ⟨TX8, 4, rfl⟩, 3, rfl, by decide +kernel⟩⟩
set_option maxRecDepth 100000 in
theorem ti_m_8_42 : ti_MOK 8 42 (0, hX4_tell, 3, 2, yX4_tell) := ⟨ti_in 737 (by decide +kernel) (by decide +kernel), ti_in 89 (by decide +kernel) (by decide +kernel), by decide, rfl, ⟨by decide +kernel, by decide +kernel⟩, by decide, Or.inl ⟨rfl, ti_in 999 (by decide +kernel) (by decide +kernel), ti_in 735 (by decide +kernel) (by decide +kernel), ti_in 736 (by decide +kernel) (by decide +kernel), ⟨TX4, 2, rfl⟩, 1, rfl, by decide +kernel⟩⟩
set_option maxRecDepth 100000 in
theorem ti_m_8_56 : ti_MOK 8 56 (1, hJ6_bitCount_0f7a4, 1, 1, yJ6_bitCount_0f7a4) := ⟨ti_in 726 (by decide +kernel) (by decide +kernel), ti_in 111 (by decide +kernel) (by decide +kernel), by decide, rfl, ⟨by decide +kernel, by decide +kernel⟩, by decide, Or.inr (Or.inl ⟨rfl, ti_in 997 (by decide +kernel) (by decide +kernel), ti_in 725 (by decide +kernel) (by decide +kernel), by decide +kernel⟩)⟩
set_option maxRecDepth 100000 in
theorem ti_m_8_61 : ti_MOK 8 61 (0, hX0_forceOf, 9, 4, yX0_forceOf) := ⟨ti_in 749 (by decide +kernel) (by decide +kernel), ti_in 91 (by decide +kernel) (by decide +kernel), by decide, rfl, ⟨by decide +kernel, by decide +kernel⟩, by decide, Or.inl ⟨rfl, ti_in 998 (by decide +kernel) (by decide +kernel), ti_in 747 (by decide +kernel) (by decide +kernel), ti_in 748 (by decide +kernel) (by decide +kernel), ⟨TX0, 4, rfl⟩, 3, rfl, by decide +kernel⟩⟩
set_option maxRecDepth 100000 in
theorem ti_m_8_71 : ti_MOK 8 71 (0, hX8_neededHere, 2, 2, yX8_neededHere) := ⟨ti_in 1012 (by decide +kernel) (by decide +kernel), ti_in 96 (by decide +kernel) (by decide +kernel), by decide, rfl, ⟨by decide +kernel, by decide +kernel⟩, by decide, Or.inl ⟨rfl, ti_in 1009 (by decide +kernel) (by decide +kernel), ti_in 1011 (by decide +kernel) (by decide +kernel), ti_in 16 (by decide +kernel) (by decide +kernel), ⟨TX8, 4, rfl⟩, 1, rfl, by decide +kernel⟩⟩
set_option maxRecDepth 100000 in
theorem ti_m_8_75 : ti_MOK 8 75 (0, hX4_tell_, 5, 3, yX4_tell_) := ⟨ti_in 733 (by decide +kernel) (by decide +kernel), ti_in 89 (by decide +kernel) (by decide +kernel), by decide, rfl, ⟨by decide +kernel, by decide +kernel⟩, by decide, Or.inl ⟨rfl, ti_in 1014 (by decide +kernel) (by decide +kernel), ti_in 731 (by decide +kernel) (by decide +kernel), ti_in 732 (by decide +kernel) (by decide +kernel), ⟨TX4, 2, rfl⟩, 2, rfl, by decide +kernel⟩⟩
set_option maxRecDepth 100000 in
theorem ti_m_8_88 : ti_MOK 8 88 (0, hX8_waysTo, 6, 4, yX8_waysTo) := ⟨ti_in 1218 (by decide +kernel) (by decide +kernel), ti_in 96 (by decide +kernel) (by decide +kernel), by decide, rfl, ⟨by decide +kernel, by decide +kernel⟩, by decide, Or.inl ⟨rfl, ti_in 1215 (by decide +kernel) (by decide +kernel), ti_in 1217 (by decide +kernel) (by decide +kernel), ti_in 23 (by decide +kernel) (by decide +kernel), ⟨TX8, 4, rfl⟩, 3, rfl, by decide +kernel⟩⟩
set_option maxRecDepth 100000 in
theorem ti_m_8_92 : ti_MOK 8 92 (1, hX8_commonDivisor, 6, 2, yX8_commonDivisor) := ⟨ti_in 1221 (by decide +kernel) (by decide +kernel), ti_in 96 (by decide +kernel) (by decide +kernel), by decide, rfl, ⟨by decide +kernel, by decide +kernel⟩, by decide, Or.inr (Or.inl ⟨rfl, ti_in 1219 (by decide +kernel) (by decide +kernel), ti_in 1220 (by decide +kernel) (by decide +kernel), by decide +kernel⟩)⟩
theorem ti_mok_8 : ∀ e ∈ ti_mr_8, ti_MOK 8 e.1 e.2 := List.forall_mem_cons.mpr ⟨ti_m_8_32, List.forall_mem_cons.mpr ⟨ti_m_8_38, List.forall_mem_cons.mpr ⟨ti_m_8_42, List.forall_mem_cons.mpr ⟨ti_m_8_56, List.forall_mem_cons.mpr ⟨ti_m_8_61, List.forall_mem_cons.mpr ⟨ti_m_8_71, List.forall_mem_cons.mpr ⟨ti_m_8_75, List.forall_mem_cons.mpr ⟨ti_m_8_88, List.forall_mem_cons.mpr ⟨ti_m_8_92, fun _ h => absurd h List.not_mem_nil⟩⟩⟩⟩⟩⟩⟩⟩⟩
theorem ti_b_8_65 : ti_BOK 8 65 1 := ⟨fun h => absurd h (by decide), fun _ => ti_in 1008 (by decide +kernel) (by decide +kernel), fun h => absurd h (by decide), fun h => absurd h (by decide), fun h => absurd h (by decide)⟩
theorem ti_b_8_85 : ti_BOK 8 85 2 := ⟨fun h => absurd h (by decide), fun h => absurd h (by decide), fun _ => ti_in 1049 (by decide +kernel) (by decide +kernel), fun h => absurd h (by decide), fun h => absurd h (by decide)⟩
theorem ti_b_8_95 : ti_BOK 8 95 0 := ⟨fun _ => ti_in 1222 (by decide +kernel) (by decide +kernel), fun h => absurd h (by decide), fun h => absurd h (by decide), fun h => absurd h (by decide), fun h => absurd h (by decide)⟩
theorem ti_bok_8 : ∀ e ∈ ti_br_8, ti_BOK 8 e.1 e.2 := List.forall_mem_cons.mpr ⟨ti_b_8_65, List.forall_mem_cons.mpr ⟨ti_b_8_85, List.forall_mem_cons.mpr ⟨ti_b_8_95, fun _ h => absurd h List.not_mem_nil⟩⟩⟩
theorem ti_f_9_11 : ti_FOK 9 11 9 0 2 := ⟨RX9, TX9, 5, rfl, by decide, rfl, Or.inl (ti_in 126 (by decide +kernel) (by decide +kernel)), fun h => absurd h (by decide), fun h => absurd h (by decide), fun h => absurd h (by decide)⟩
theorem ti_f_9_15 : ti_FOK 9 15 9 1 0 := ⟨RX9, TX9, 5, rfl, by decide, rfl, Or.inl (ti_in 127 (by decide +kernel) (by decide +kernel)), fun _ => ⟨rfl, by decide +kernel⟩, fun h => absurd h (by decide), fun h => absurd h (by decide)⟩
theorem ti_f_9_19 : ti_FOK 9 19 9 2 0 := ⟨RX9, TX9, 5, rfl, by decide, rfl, Or.inl (ti_in 128 (by decide +kernel) (by decide +kernel)), fun _ => ⟨rfl, by decide +kernel⟩, fun h => absurd h (by decide), fun h => absurd h (by decide)⟩
theorem ti_f_9_28 : ti_FOK 9 28 9 3 0 := ⟨RX9, TX9, 5, rfl, by decide, rfl, Or.inl (ti_in 129 (by decide +kernel) (by decide +kernel)), fun _ => ⟨rfl, by decide +kernel⟩, fun h => absurd h (by decide), fun h => absurd h (by decide)⟩
theorem ti_f_9_31 : ti_FOK 9 31 9 4 0 := ⟨RX9, TX9, 5, rfl, by decide, rfl, Or.inl (ti_in 130 (by decide +kernel) (by decide +kernel)), fun _ => ⟨rfl, by decide +kernel⟩, fun h => absurd h (by decide), fun h => absurd h (by decide)⟩
theorem ti_fok_9 : ∀ e ∈ ti_fr_9, ti_FOK 9 e.1 e.2.1 e.2.2.1 e.2.2.2 := List.forall_mem_cons.mpr ⟨ti_f_9_11, List.forall_mem_cons.mpr ⟨ti_f_9_15, List.forall_mem_cons.mpr ⟨ti_f_9_19, List.forall_mem_cons.mpr ⟨ti_f_9_28, List.forall_mem_cons.mpr ⟨ti_f_9_31, fun _ h => absurd h List.not_mem_nil⟩⟩⟩⟩⟩
set_option maxRecDepth 100000 in
theorem ti_m_9_34 : ti_MOK 9 34 (0, hX9_peek, 1, 1, yX9_peek) := ⟨ti_in 520 (by decide +kernel) (by decide +kernel), ti_in 88 (by decide +kernel) (by decide +kernel), by decide, rfl, ⟨by decide +kernel, by decide +kernel⟩, by decide, Or.inl ⟨rfl, ti_in 517 (by decide +kernel) (by decide +kernel), ti_in 518 (by decide +kernel) (by decide +kernel), ti_in 519 (by decide +kernel) (by decide +kernel), ⟨TX9, 5, rfl⟩, 0, rfl, by decide +kernel⟩⟩
set_option maxRecDepth 100000 in
theorem ti_m_9_38 : ti_MOK 9 38 (0, hX9_skip, 1, 1, yX9_skip) := ⟨ti_in 524 (by decide +kernel) (by decide +kernel), ti_in 88 (by decide +kernel) (by decide +kernel), by decide, rfl, ⟨by decide +kernel, by decide +kernel⟩, by decide, Or.inl ⟨rfl, ti_in 521 (by decide +kernel) (by decide +kernel), ti_in 522 (by decide +kernel) (by decide +kernel), ti_in 523 (by decide +kernel) (by decide +kernel), ⟨TX9, 5, rfl⟩, 0, rfl, by decide +kernel⟩⟩
set_option maxRecDepth 100000 in
theorem ti_m_9_41 : ti_MOK 9 41 (0, hX9_passes, 3, 2, yX9_passes) := ⟨ti_in 567 (by decide +kernel) (by decide +kernel), ti_in 88 (by decide +kernel) (by decide +kernel), by decide, rfl, ⟨by decide +kernel, by decide +kernel⟩, by decide, Or.inl ⟨rfl, ti_in 564 (by decide +kernel) (by decide +kernel), ti_in 565 (by decide +kernel) (by decide +kernel), ti_in 566 (by decide +kernel) (by decide +kernel), ⟨TX9, 5, rfl⟩, 1, rfl, by decide +kernel⟩⟩
set_option maxRecDepth 100000 in
theorem ti_m_9_45 : ti_MOK 9 45 (0, hX9_refuse, 1, 1, yX9_refuse) := ⟨ti_in 528 (by decide +kernel) (by decide +kernel), ti_in 88 (by decide +kernel) (by decide +kernel), by decide, rfl, ⟨by decide +kernel, by decide +kernel⟩, by decide, Or.inl ⟨rfl, ti_in 525 (by decide +kernel) (by decide +kernel), ti_in 526 (by decide +kernel) (by decide +kernel), ti_in 527 (by decide +kernel) (by decide +kernel), ⟨TX9, 5, rfl⟩, 0, rfl, by decide +kernel⟩⟩
theorem ti_mok_9 : ∀ e ∈ ti_mr_9, ti_MOK 9 e.1 e.2 := List.forall_mem_cons.mpr ⟨ti_m_9_34, List.forall_mem_cons.mpr ⟨ti_m_9_38, List.forall_mem_cons.mpr ⟨ti_m_9_41, List.forall_mem_cons.mpr ⟨ti_m_9_45, fun _ h => absurd h List.not_mem_nil⟩⟩⟩⟩
theorem ti_b_9_22 : ti_BOK 9 22 1 := ⟨fun h => absurd h (by decide), fun _ => ti_in 510 (by decide +kernel) (by decide +kernel), fun h => absurd h (by decide), fun h => absurd h (by decide), fun h => absurd h (by decide)⟩
theorem ti_bok_9 : ∀ e ∈ ti_br_9, ti_BOK 9 e.1 e.2 := List.forall_mem_cons.mpr ⟨ti_b_9_22, fun _ h => absurd h List.not_mem_nil⟩
theorem ti_f_10_9 : ti_FOK 10 9 10 0 2 := ⟨RX10, TX10, 3, rfl, by decide, rfl, Or.inl (ti_in 163 (by decide +kernel) (by decide +kernel)), fun h => absurd h (by decide), fun h => absurd h (by decide), fun h => absurd h (by decide)⟩
theorem ti_f_10_15 : ti_FOK 10 15 10 1 2 := ⟨RX10, TX10, 3, rfl, by decide, rfl, Or.inl (ti_in 164 (by decide +kernel) (by decide +kernel)), fun h => absurd h (by decide), fun h => absurd h (by decide), fun h => absurd h (by decide)⟩
theorem ti_f_10_18 : ti_FOK 10 18 10 2 0 := ⟨RX10, TX10, 3, rfl, by decide, rfl, Or.inl (ti_in 165 (by decide +kernel) (by decide +kernel)), fun _ => ⟨rfl, by decide +kernel⟩, fun h => absurd h (by decide), fun h => absurd h (by decide)⟩
theorem ti_fok_10 : ∀ e ∈ ti_fr_10, ti_FOK 10 e.1 e.2.1 e.2.2.1 e.2.2.2 := List.forall_mem_cons.mpr ⟨ti_f_10_9, List.forall_mem_cons.mpr ⟨ti_f_10_15, List.forall_mem_cons.mpr ⟨ti_f_10_18, fun _ h => absurd h List.not_mem_nil⟩⟩⟩
set_option maxRecDepth 100000 in
theorem ti_m_10_22 : ti_MOK 10 22 (0, hX9_open, 2, 2, yX9_open) := ⟨ti_in 509 (by decide +kernel) (by decide +kernel), ti_in 88 (by decide +kernel) (by decide +kernel), by decide, rfl, ⟨by decide +kernel, by decide +kernel⟩, by decide, Or.inl ⟨rfl, ti_in 506 (by decide +kernel) (by decide +kernel), ti_in 507 (by decide +kernel) (by decide +kernel), ti_in 508 (by decide +kernel) (by decide +kernel), ⟨TX9, 5, rfl⟩, 1, rfl, by decide +kernel⟩⟩
set_option maxRecDepth 100000 in
theorem ti_m_10_28 : ti_MOK 10 28 (0, hX9_readNumber, 7, 4, yX9_readNumber) := ⟨ti_in 516 (by decide +kernel) (by decide +kernel), ti_in 88 (by decide +kernel) (by decide +kernel), by decide, rfl, ⟨by decide +kernel, by decide +kernel⟩, by decide, Or.inl ⟨rfl, ti_in 513 (by decide +kernel) (by decide +kernel), ti_in 514 (by decide +kernel) (by decide +kernel), ti_in 515 (by decide +kernel) (by decide +kernel), ⟨TX9, 5, rfl⟩, 3, rfl, by decide +kernel⟩⟩
set_option maxRecDepth 100000 in
theorem ti_m_10_32 : ti_MOK 10 32 (0, hX9_peek, 1, 1, yX9_peek) := ⟨ti_in 520 (by decide +kernel) (by decide +kernel), ti_in 88 (by decide +kernel) (by decide +kernel), by decide, rfl, ⟨by decide +kernel, by decide +kernel⟩, by decide, Or.inl ⟨rfl, ti_in 529 (by decide +kernel) (by decide +kernel), ti_in 518 (by decide +kernel) (by decide +kernel), ti_in 519 (by decide +kernel) (by decide +kernel), ⟨TX9, 5, rfl⟩, 0, rfl, by decide +kernel⟩⟩
set_option maxRecDepth 100000 in
theorem ti_m_10_36 : ti_MOK 10 36 (0, hX9_close, 2, 1, yX9_close) := ⟨ti_in 533 (by decide +kernel) (by decide +kernel), ti_in 88 (by decide +kernel) (by decide +kernel), by decide, rfl, ⟨by decide +kernel, by decide +kernel⟩, by decide, Or.inl ⟨rfl, ti_in 530 (by decide +kernel) (by decide +kernel), ti_in 531 (by decide +kernel) (by decide +kernel), ti_in 532 (by decide +kernel) (by decide +kernel), ⟨TX9, 5, rfl⟩, 0, rfl, by decide +kernel⟩⟩
set_option maxRecDepth 100000 in
theorem ti_m_10_45 : ti_MOK 10 45 (1, hX10_entry, 2, 2, yX10_entry) := ⟨ti_in 788 (by decide +kernel) (by decide +kernel), ti_in 90 (by decide +kernel) (by decide +kernel), by decide, rfl, ⟨by decide +kernel, by decide +kernel⟩, by decide, Or.inr (Or.inl ⟨rfl, ti_in 786 (by decide +kernel) (by decide +kernel), ti_in 787 (by decide +kernel) (by decide +kernel), by decide +kernel⟩)⟩
set_option maxRecDepth 100000 in
theorem ti_m_10_49 : ti_MOK 10 49 (2, hX11_within, 3, 3, yX11_within) := ⟨ti_in 762 (by decide +kernel) (by decide +kernel), ti_in 87 (by decide +kernel) (by decide +kernel), by decide, rfl, ⟨by decide +kernel, by decide +kernel⟩, by decide, Or.inr (Or.inr ⟨rfl, ⟨"SixToCarry", ti_inN 789 (by decide +kernel) (by decide +kernel)⟩, ti_in 761 (by decide +kernel) (by decide +kernel), by decide +kernel⟩)⟩
theorem ti_mok_10 : ∀ e ∈ ti_mr_10, ti_MOK 10 e.1 e.2 := List.forall_mem_cons.mpr ⟨ti_m_10_22, List.forall_mem_cons.mpr ⟨ti_m_10_28, List.forall_mem_cons.mpr ⟨ti_m_10_32, List.forall_mem_cons.mpr ⟨ti_m_10_36, List.forall_mem_cons.mpr ⟨ti_m_10_45, List.forall_mem_cons.mpr ⟨ti_m_10_49, fun _ h => absurd h List.not_mem_nil⟩⟩⟩⟩⟩⟩
theorem ti_b_10_39 : ti_BOK 10 39 3 := ⟨fun h => absurd h (by decide), fun h => absurd h (by decide), fun h => absurd h (by decide), fun _ => ti_in 534 (by decide +kernel) (by decide +kernel), fun h => absurd h (by decide)⟩
theorem ti_bok_10 : ∀ e ∈ ti_br_10, ti_BOK 10 e.1 e.2 := List.forall_mem_cons.mpr ⟨ti_b_10_39, fun _ h => absurd h List.not_mem_nil⟩
theorem ti_f_11_10 : ti_FOK 11 10 11 0 2 := ⟨RX11, TX11, 13, rfl, by decide, rfl, Or.inl (ti_in 442 (by decide +kernel) (by decide +kernel)), fun h => absurd h (by decide), fun h => absurd h (by decide), fun h => absurd h (by decide)⟩
theorem ti_f_11_19 : ti_FOK 11 19 11 1 2 := ⟨RX11, TX11, 13, rfl, by decide, rfl, Or.inl (ti_in 443 (by decide +kernel) (by decide +kernel)), fun h => absurd h (by decide), fun h => absurd h (by decide), fun h => absurd h (by decide)⟩
theorem ti_f_11_26 : ti_FOK 11 26 11 2 2 := ⟨RX11, TX11, 13, rfl, by decide, rfl, Or.inl (ti_in 444 (by decide +kernel) (by decide +kernel)), fun h => absurd h (by decide), fun h => absurd h (by decide), fun h => absurd h (by decide)⟩
theorem ti_f_11_35 : ti_FOK 11 35 11 3 2 := ⟨RX11, TX11, 13, rfl, by decide, rfl, Or.inl (ti_in 445 (by decide +kernel) (by decide +kernel)), fun h => absurd h (by decide), fun h => absurd h (by decide), fun h => absurd h (by decide)⟩
theorem ti_f_11_42 : ti_FOK 11 42 11 4 2 := ⟨RX11, TX11, 13, rfl, by decide, rfl, Or.inl (ti_in 446 (by decide +kernel) (by decide +kernel)), fun h => absurd h (by decide), fun h => absurd h (by decide), fun h => absurd h (by decide)⟩
theorem ti_f_11_49 : ti_FOK 11 49 11 5 2 := ⟨RX11, TX11, 13, rfl, by decide, rfl, Or.inl (ti_in 447 (by decide +kernel) (by decide +kernel)), fun h => absurd h (by decide), fun h => absurd h (by decide), fun h => absurd h (by decide)⟩
theorem ti_f_11_56 : ti_FOK 11 56 11 6 2 := ⟨RX11, TX11, 13, rfl, by decide, rfl, Or.inl (ti_in 448 (by decide +kernel) (by decide +kernel)), fun h => absurd h (by decide), fun h => absurd h (by decide), fun h => absurd h (by decide)⟩
theorem ti_f_11_65 : ti_FOK 11 65 11 7 2 := ⟨RX11, TX11, 13, rfl, by decide, rfl, Or.inl (ti_in 449 (by decide +kernel) (by decide +kernel)), fun h => absurd h (by decide), fun h => absurd h (by decide), fun h => absurd h (by decide)⟩
theorem ti_f_11_74 : ti_FOK 11 74 11 8 2 := ⟨RX11, TX11, 13, rfl, by decide, rfl, Or.inl (ti_in 450 (by decide +kernel) (by decide +kernel)), fun h => absurd h (by decide), fun h => absurd h (by decide), fun h => absurd h (by decide)⟩
theorem ti_f_11_83 : ti_FOK 11 83 11 9 2 := ⟨RX11, TX11, 13, rfl, by decide, rfl, Or.inl (ti_in 451 (by decide +kernel) (by decide +kernel)), fun h => absurd h (by decide), fun h => absurd h (by decide), fun h => absurd h (by decide)⟩
theorem ti_f_11_87 : ti_FOK 11 87 11 10 2 := ⟨RX11, TX11, 13, rfl, by decide, rfl, Or.inl (ti_in 452 (by decide +kernel) (by decide +kernel)), fun h => absurd h (by decide), fun h => absurd h (by decide), fun h => absurd h (by decide)⟩
theorem ti_f_11_94 : ti_FOK 11 94 11 11 3 := ⟨RX11, TX11, 13, rfl, by decide, rfl, Or.inl (ti_in 453 (by decide +kernel) (by decide +kernel)), fun h => absurd h (by decide), fun h => absurd h (by decide), fun _ => ⟨rfl, tyX11 11, by decide +kernel, fun _ => ⟨rfl, rfl⟩⟩⟩
theorem ti_f_11_98 : ti_FOK 11 98 11 12 3 := ⟨RX11, TX11, 13, rfl, by decide, rfl, Or.inl (ti_in 454 (by decide +kernel) (by decide +kernel)), fun h => absurd h (by decide), fun h => absurd h (by decide), fun _ => ⟨rfl, tyX11 12, by decide +kernel, fun _ => ⟨rfl, rfl⟩⟩⟩
theorem ti_f_11_113 : ti_FOK 11 113 7 1 0 := ⟨RX7, TX7, 8, rfl, by decide, rfl, Or.inr ⟨"SixToCarry", ti_inN 249 (by decide +kernel) (by decide +kernel)⟩, fun _ => ⟨rfl, by decide +kernel⟩, fun h => absurd h (by decide), fun h => absurd h (by decide)⟩
theorem ti_f_11_117 : ti_FOK 11 117 7 6 1 := ⟨RX7, TX7, 8, rfl, by decide, rfl, Or.inr ⟨"SixToCarry", ti_inN 266 (by decide +kernel) (by decide +kernel)⟩, fun h => absurd h (by decide), fun _ => ⟨rfl, by decide +kernel⟩, fun h => absurd h (by decide)⟩
theorem ti_f_11_124 : ti_FOK 11 124 10 2 0 := ⟨RX10, TX10, 3, rfl, by decide, rfl, Or.inr ⟨"SixToCarry", ti_inN 168 (by decide +kernel) (by decide +kernel)⟩, fun _ => ⟨rfl, by decide +kernel⟩, fun h => absurd h (by decide), fun h => absurd h (by decide)⟩
theorem ti_f_11_137 : ti_FOK 11 137 0 3 0 := ⟨RX0, TX0, 4, rfl, by decide, rfl, Or.inr ⟨"SixToCarry", ti_inN 193 (by decide +kernel) (by decide +kernel)⟩, fun _ => ⟨rfl, by decide +kernel⟩, fun h => absurd h (by decide), fun h => absurd h (by decide)⟩
theorem ti_f_11_141 : ti_FOK 11 141 6 4 0 := ⟨RX6, TX6, 5, rfl, by decide, rfl, Or.inr ⟨"SixToCarry", ti_inN 223 (by decide +kernel) (by decide +kernel)⟩, fun _ => ⟨rfl, by decide +kernel⟩, fun h => absurd h (by decide), fun h => absurd h (by decide)⟩
theorem ti_f_11_153 : ti_FOK 11 153 0 1 2 := ⟨RX0, TX0, 4, rfl, by decide, rfl, Or.inr ⟨"SixToCarry", ti_inN 185 (by decide +kernel) (by decide +kernel)⟩, fun h => absurd h (by decide), fun h => absurd h (by decide), fun h => absurd h (by decide)⟩
theorem ti_f_11_156 : ti_FOK 11 156 0 2 2 := ⟨RX0, TX0, 4, rfl, by decide, rfl, Or.inr ⟨"SixToCarry", ti_inN 188 (by decide +kernel) (by decide +kernel)⟩, fun h => absurd h (by decide), fun h => absurd h (by decide), fun h => absurd h (by decide)⟩
theorem ti_f_11_159 : ti_FOK 11 159 7 0 2 := ⟨RX7, TX7, 8, rfl, by decide, rfl, Or.inr ⟨"SixToCarry", ti_inN 245 (by decide +kernel) (by decide +kernel)⟩, fun h => absurd h (by decide), fun h => absurd h (by decide), fun h => absurd h (by decide)⟩
theorem ti_f_11_162 : ti_FOK 11 162 7 3 0 := ⟨RX7, TX7, 8, rfl, by decide, rfl, Or.inr ⟨"SixToCarry", ti_inN 258 (by decide +kernel) (by decide +kernel)⟩, fun _ => ⟨rfl, by decide +kernel⟩, fun h => absurd h (by decide), fun h => absurd h (by decide)⟩
theorem ti_f_11_174 : ti_FOK 11 174 6 0 2 := ⟨RX6, TX6, 5, rfl, by decide, rfl, Or.inr ⟨"SixToCarry", ti_inN 210 (by decide +kernel) (by decide +kernel)⟩, fun h => absurd h (by decide), fun h => absurd h (by decide), fun h => absurd h (by decide)⟩
theorem ti_f_11_180 : ti_FOK 11 180 6 1 2 := ⟨RX6, TX6, 5, rfl, by decide, rfl, Or.inr ⟨"SixToCarry", ti_inN 212 (by decide +kernel) (by decide +kernel)⟩, fun h => absurd h (by decide), fun h => absurd h (by decide), fun h => absurd h (by decide)⟩
theorem ti_f_11_183 : ti_FOK 11 183 6 2 2 := ⟨RX6, TX6, 5, rfl, by decide, rfl, Or.inr ⟨"SixToCarry", ti_inN 216 (by decide +kernel) (by decide +kernel)⟩, fun h => absurd h (by decide), fun h => absurd h (by decide), fun h => absurd h (by decide)⟩
theorem ti_f_11_186 : ti_FOK 11 186 7 5 0 := ⟨RX7, TX7, 8, rfl, by decide, rfl, Or.inr ⟨"SixToCarry", ti_inN 264 (by decide +kernel) (by decide +kernel)⟩, fun _ => ⟨rfl, by decide +kernel⟩, fun h => absurd h (by decide), fun h => absurd h (by decide)⟩
theorem ti_f_11_189 : ti_FOK 11 189 7 4 0 := ⟨RX7, TX7, 8, rfl, by decide, rfl, Or.inr ⟨"SixToCarry", ti_inN 261 (by decide +kernel) (by decide +kernel)⟩, fun _ => ⟨rfl, by decide +kernel⟩, fun h => absurd h (by decide), fun h => absurd h (by decide)⟩
theorem ti_f_11_194 : ti_FOK 11 194 7 2 0 := ⟨RX7, TX7, 8, rfl, by decide, rfl, Or.inr ⟨"SixToCarry", ti_inN 254 (by decide +kernel) (by decide +kernel)⟩, fun _ => ⟨rfl, by decide +kernel⟩, fun h => absurd h (by decide), fun h => absurd h (by decide)⟩
theorem ti_f_11_231 : ti_FOK 11 231 7 7 0 := ⟨RX7, TX7, 8, rfl, by decide, rfl, Or.inr ⟨"SixToCarry", ti_inN 270 (by decide +kernel) (by decide +kernel)⟩, fun _ => ⟨rfl, by decide +kernel⟩, fun h => absurd h (by decide), fun h => absurd h (by decide)⟩
theorem ti_f_11_325 : ti_FOK 11 325 6 3 0 := ⟨RX6, TX6, 5, rfl, by decide, rfl, Or.inr ⟨"SixToCarry", ti_inN 220 (by decide +kernel) (by decide +kernel)⟩, fun _ => ⟨rfl, by decide +kernel⟩, fun h => absurd h (by decide), fun h => absurd h (by decide)⟩
theorem ti_f_11_403 : ti_FOK 11 403 1 4 0 := ⟨RX1, TX1, 14, rfl, by decide, rfl, Or.inr ⟨"SixToCarry", ti_inN 383 (by decide +kernel) (by decide +kernel)⟩, fun _ => ⟨rfl, by decide +kernel⟩, fun h => absurd h (by decide), fun h => absurd h (by decide)⟩
theorem ti_f_11_406 : ti_FOK 11 406 1 8 0 := ⟨RX1, TX1, 14, rfl, by decide, rfl, Or.inr ⟨"SixToCarry", ti_inN 388 (by decide +kernel) (by decide +kernel)⟩, fun _ => ⟨rfl, by decide +kernel⟩, fun h => absurd h (by decide), fun h => absurd h (by decide)⟩
theorem ti_f_11_409 : ti_FOK 11 409 2 5 0 := ⟨RX2, TX2, 6, rfl, by decide, rfl, Or.inr ⟨"SixToCarry", ti_inN 303 (by decide +kernel) (by decide +kernel)⟩, fun _ => ⟨rfl, by decide +kernel⟩, fun h => absurd h (by decide), fun h => absurd h (by decide)⟩
theorem ti_fok_11 : ∀ e ∈ ti_fr_11, ti_FOK 11 e.1 e.2.1 e.2.2.1 e.2.2.2 := List.forall_mem_cons.mpr ⟨ti_f_11_10, List.forall_mem_cons.mpr ⟨ti_f_11_19, List.forall_mem_cons.mpr ⟨ti_f_11_26, List.forall_mem_cons.mpr ⟨ti_f_11_35, List.forall_mem_cons.mpr ⟨ti_f_11_42, List.forall_mem_cons.mpr ⟨ti_f_11_49, List.forall_mem_cons.mpr ⟨ti_f_11_56, List.forall_mem_cons.mpr ⟨ti_f_11_65, List.forall_mem_cons.mpr ⟨ti_f_11_74, List.forall_mem_cons.mpr ⟨ti_f_11_83, List.forall_mem_cons.mpr ⟨ti_f_11_87, List.forall_mem_cons.mpr ⟨ti_f_11_94, List.forall_mem_cons.mpr ⟨ti_f_11_98, List.forall_mem_cons.mpr ⟨ti_f_11_113, List.forall_mem_cons.mpr ⟨ti_f_11_117, List.forall_mem_cons.mpr ⟨ti_f_11_124, List.forall_mem_cons.mpr ⟨ti_f_11_137, List.forall_mem_cons.mpr ⟨ti_f_11_141, List.forall_mem_cons.mpr ⟨ti_f_11_153, List.forall_mem_cons.mpr ⟨ti_f_11_156, List.forall_mem_cons.mpr ⟨ti_f_11_159, List.forall_mem_cons.mpr ⟨ti_f_11_162, List.forall_mem_cons.mpr ⟨ti_f_11_174, List.forall_mem_cons.mpr ⟨ti_f_11_180, List.forall_mem_cons.mpr ⟨ti_f_11_183, List.forall_mem_cons.mpr ⟨ti_f_11_186, List.forall_mem_cons.mpr ⟨ti_f_11_189, List.forall_mem_cons.mpr ⟨ti_f_11_194, List.forall_mem_cons.mpr ⟨ti_f_11_231, List.forall_mem_cons.mpr ⟨ti_f_11_325, List.forall_mem_cons.mpr ⟨ti_f_11_403, List.forall_mem_cons.mpr ⟨ti_f_11_406, List.forall_mem_cons.mpr ⟨ti_f_11_409, fun _ h => absurd h List.not_mem_nil⟩⟩⟩⟩⟩⟩⟩⟩⟩⟩⟩⟩⟩⟩⟩⟩⟩⟩⟩⟩⟩⟩⟩⟩⟩⟩⟩⟩⟩⟩⟩⟩⟩
set_option maxRecDepth 100000 in
theorem ti_m_11_101 : ti_MOK 11 101 (0, hX9_append, 3, 2, yX9_append) := ⟨ti_in 489 (by decide +kernel) (by decide +kernel), ti_in 88 (by decide +kernel) (by decide +kernel), by decide, rfl, ⟨by decide +kernel, by decide +kernel⟩, by decide, Or.inl ⟨rfl, ti_in 486 (by decide +kernel) (by decide +kernel), ti_in 487 (by decide +kernel) (by decide +kernel), ti_in 488 (by decide +kernel) (by decide +kernel), ⟨TX9, 5, rfl⟩, 1, rfl, by decide +kernel⟩⟩
set_option maxRecDepth 100000 in
theorem ti_m_11_105 : ti_MOK 11 105 (0, hX9_shorten, 2, 2, yX9_shorten) := ⟨ti_in 497 (by decide +kernel) (by decide +kernel), ti_in 88 (by decide +kernel) (by decide +kernel), by decide, rfl, ⟨by decide +kernel, by decide +kernel⟩, by decide, Or.inl ⟨rfl, ti_in 494 (by decide +kernel) (by decide +kernel), ti_in 495 (by decide +kernel) (by decide +kernel), ti_in 496 (by decide +kernel) (by decide +kernel), ⟨TX9, 5, rfl⟩, 1, rfl, by decide +kernel⟩⟩
set_option maxRecDepth 100000 in
theorem ti_m_11_109 : ti_MOK 11 109 (0, hX10_read, 4, 2, yX10_read) := ⟨ti_in 505 (by decide +kernel) (by decide +kernel), ti_in 90 (by decide +kernel) (by decide +kernel), by decide, rfl, ⟨by decide +kernel, by decide +kernel⟩, by decide, Or.inl ⟨rfl, ti_in 502 (by decide +kernel) (by decide +kernel), ti_in 503 (by decide +kernel) (by decide +kernel), ti_in 504 (by decide +kernel) (by decide +kernel), ⟨TX10, 3, rfl⟩, 1, rfl, by decide +kernel⟩⟩
set_option maxRecDepth 100000 in
theorem ti_m_11_121 : ti_MOK 11 121 (0, hX2_forgetAll, 1, 1, yX2_forgetAll) := ⟨ti_in 540 (by decide +kernel) (by decide +kernel), ti_in 94 (by decide +kernel) (by decide +kernel), by decide, rfl, ⟨by decide +kernel, by decide +kernel⟩, by decide, Or.inl ⟨rfl, ti_in 537 (by decide +kernel) (by decide +kernel), ti_in 538 (by decide +kernel) (by decide +kernel), ti_in 539 (by decide +kernel) (by decide +kernel), ⟨TX2, 6, rfl⟩, 0, rfl, by decide +kernel⟩⟩
set_option maxRecDepth 100000 in
theorem ti_m_11_127 : ti_MOK 11 127 (0, hX9_size, 1, 1, yX9_size) := ⟨ti_in 548 (by decide +kernel) (by decide +kernel), ti_in 88 (by decide +kernel) (by decide +kernel), by decide, rfl, ⟨by decide +kernel, by decide +kernel⟩, by decide, Or.inl ⟨rfl, ti_in 545 (by decide +kernel) (by decide +kernel), ti_in 546 (by decide +kernel) (by decide +kernel), ti_in 547 (by decide +kernel) (by decide +kernel), ⟨TX9, 5, rfl⟩, 0, rfl, by decide +kernel⟩⟩
set_option maxRecDepth 100000 in
theorem ti_m_11_131 : ti_MOK 11 131 (0, hX0_readLines, 3, 2, yX0_readLines) := ⟨ti_in 552 (by decide +kernel) (by decide +kernel), ti_in 91 (by decide +kernel) (by decide +kernel), by decide, rfl, ⟨by decide +kernel, by decide +kernel⟩, by decide, Or.inl ⟨rfl, ti_in 549 (by decide +kernel) (by decide +kernel), ti_in 550 (by decide +kernel) (by decide +kernel), ti_in 551 (by decide +kernel) (by decide +kernel), ⟨TX0, 4, rfl⟩, 1, rfl, by decide +kernel⟩⟩
set_option maxRecDepth 100000 in
theorem ti_m_11_134 : ti_MOK 11 134 (0, hX9_close, 2, 1, yX9_close) := ⟨ti_in 533 (by decide +kernel) (by decide +kernel), ti_in 88 (by decide +kernel) (by decide +kernel), by decide, rfl, ⟨by decide +kernel, by decide +kernel⟩, by decide, Or.inl ⟨rfl, ti_in 569 (by decide +kernel) (by decide +kernel), ti_in 531 (by decide +kernel) (by decide +kernel), ti_in 532 (by decide +kernel) (by decide +kernel), ⟨TX9, 5, rfl⟩, 0, rfl, by decide +kernel⟩⟩
set_option maxRecDepth 100000 in
theorem ti_m_11_140 : ti_MOK 11 140 (0, hX6_readLines, 3, 2, yX6_readLines) := ⟨ti_in 577 (by decide +kernel) (by decide +kernel), ti_in 92 (by decide +kernel) (by decide +kernel), by decide, rfl, ⟨by decide +kernel, by decide +kernel⟩, by decide, Or.inl ⟨rfl, ti_in 574 (by decide +kernel) (by decide +kernel), ti_in 575 (by decide +kernel) (by decide +kernel), ti_in 576 (by decide +kernel) (by decide +kernel), ⟨TX6, 5, rfl⟩, 1, rfl, by decide +kernel⟩⟩
set_option maxRecDepth 100000 in
theorem ti_m_11_142 : ti_MOK 11 142 (0, hX5_read, 2, 2, yX5_read) := ⟨ti_in 601 (by decide +kernel) (by decide +kernel), ti_in 98 (by decide +kernel) (by decide +kernel), by decide, rfl, ⟨by decide +kernel, by decide +kernel⟩, by decide, Or.inl ⟨rfl, ti_in 598 (by decide +kernel) (by decide +kernel), ti_in 599 (by decide +kernel) (by decide +kernel), ti_in 600 (by decide +kernel) (by decide +kernel), ⟨TX5, 4, rfl⟩, 1, rfl, by decide +kernel⟩⟩
set_option maxRecDepth 100000 in
theorem ti_m_11_143 : ti_MOK 11 143 (0, hX0_has, 2, 2, yX0_has) := ⟨ti_in 834 (by decide +kernel) (by decide +kernel), ti_in 91 (by decide +kernel) (by decide +kernel), by decide, rfl, ⟨by decide +kernel, by decide +kernel⟩, by decide, Or.inl ⟨rfl, ti_in 1035 (by decide +kernel) (by decide +kernel), ti_in 832 (by decide +kernel) (by decide +kernel), ti_in 833 (by decide +kernel) (by decide +kernel), ⟨TX0, 4, rfl⟩, 1, rfl, by decide +kernel⟩⟩
set_option maxRecDepth 100000 in
theorem ti_m_11_165 : ti_MOK 11 165 (0, hX0_worth, 6, 6, yX0_worth) := ⟨ti_in 1039 (by decide +kernel) (by decide +kernel), ti_in 91 (by decide +kernel) (by decide +kernel), by decide, rfl, ⟨by decide +kernel, by decide +kernel⟩, by decide, Or.inl ⟨rfl, ti_in 1036 (by decide +kernel) (by decide +kernel), ti_in 1037 (by decide +kernel) (by decide +kernel), ti_in 1038 (by decide +kernel) (by decide +kernel), ⟨TX0, 4, rfl⟩, 5, rfl, by decide +kernel⟩⟩
set_option maxRecDepth 100000 in
theorem ti_m_11_171 : ti_MOK 11 171 (0, hX6_has, 2, 2, yX6_has) := ⟨ti_in 863 (by decide +kernel) (by decide +kernel), ti_in 92 (by decide +kernel) (by decide +kernel), by decide, rfl, ⟨by decide +kernel, by decide +kernel⟩, by decide, Or.inl ⟨rfl, ti_in 1181 (by decide +kernel) (by decide +kernel), ti_in 861 (by decide +kernel) (by decide +kernel), ti_in 862 (by decide +kernel) (by decide +kernel), ⟨TX6, 5, rfl⟩, 1, rfl, by decide +kernel⟩⟩
set_option maxRecDepth 100000 in
theorem ti_m_11_177 : ti_MOK 11 177 (0, hX6_isTrue, 2, 2, yX6_isTrue) := ⟨ti_in 875 (by decide +kernel) (by decide +kernel), ti_in 92 (by decide +kernel) (by decide +kernel), by decide, rfl, ⟨by decide +kernel, by decide +kernel⟩, by decide, Or.inl ⟨rfl, ti_in 1372 (by decide +kernel) (by decide +kernel), ti_in 873 (by decide +kernel) (by decide +kernel), ti_in 874 (by decide +kernel) (by decide +kernel), ⟨TX6, 5, rfl⟩, 1, rfl, by decide +kernel⟩⟩
set_option maxRecDepth 100000 in
theorem ti_m_11_197 : ti_MOK 11 197 (0, hX10_steepAt, 2, 2, yX10_steepAt) := ⟨ti_in 723 (by decide +kernel) (by decide +kernel), ti_in 90 (by decide +kernel) (by decide +kernel), by decide, rfl, ⟨by decide +kernel, by decide +kernel⟩, by decide, Or.inl ⟨rfl, ti_in 720 (by decide +kernel) (by decide +kernel), ti_in 721 (by decide +kernel) (by decide +kernel), ti_in 722 (by decide +kernel) (by decide +kernel), ⟨TX10, 3, rfl⟩, 1, rfl, by decide +kernel⟩⟩
set_option maxRecDepth 100000 in
theorem ti_m_11_200 : ti_MOK 11 200 (1, hJ6_bitCount_0f7a4, 1, 1, yJ6_bitCount_0f7a4) := ⟨ti_in 726 (by decide +kernel) (by decide +kernel), ti_in 111 (by decide +kernel) (by decide +kernel), by decide, rfl, ⟨by decide +kernel, by decide +kernel⟩, by decide, Or.inr (Or.inl ⟨rfl, ti_in 724 (by decide +kernel) (by decide +kernel), ti_in 725 (by decide +kernel) (by decide +kernel), by decide +kernel⟩)⟩
set_option maxRecDepth 100000 in
theorem ti_m_11_205 : ti_MOK 11 205 (0, hX4_tell_, 5, 3, yX4_tell_) := ⟨ti_in 733 (by decide +kernel) (by decide +kernel), ti_in 89 (by decide +kernel) (by decide +kernel), by decide, rfl, ⟨by decide +kernel, by decide +kernel⟩, by decide, Or.inl ⟨rfl, ti_in 730 (by decide +kernel) (by decide +kernel), ti_in 731 (by decide +kernel) (by decide +kernel), ti_in 732 (by decide +kernel) (by decide +kernel), ⟨TX4, 2, rfl⟩, 2, rfl, by decide +kernel⟩⟩
set_option maxRecDepth 100000 in
theorem ti_m_11_209 : ti_MOK 11 209 (0, hX0_forceOf, 9, 4, yX0_forceOf) := ⟨ti_in 749 (by decide +kernel) (by decide +kernel), ti_in 91 (by decide +kernel) (by decide +kernel), by decide, rfl, ⟨by decide +kernel, by decide +kernel⟩, by decide, Or.inl ⟨rfl, ti_in 746 (by decide +kernel) (by decide +kernel), ti_in 747 (by decide +kernel) (by decide +kernel), ti_in 748 (by decide +kernel) (by decide +kernel), ⟨TX0, 4, rfl⟩, 3, rfl, by decide +kernel⟩⟩
set_option maxRecDepth 100000 in
theorem ti_m_11_213 : ti_MOK 11 213 (0, hX10_copySheet, 6, 5, yX10_copySheet) := ⟨ti_in 785 (by decide +kernel) (by decide +kernel), ti_in 90 (by decide +kernel) (by decide +kernel), by decide, rfl, ⟨by decide +kernel, by decide +kernel⟩, by decide, Or.inl ⟨rfl, ti_in 782 (by decide +kernel) (by decide +kernel), ti_in 783 (by decide +kernel) (by decide +kernel), ti_in 784 (by decide +kernel) (by decide +kernel), ⟨TX10, 3, rfl⟩, 4, rfl, by decide +kernel⟩⟩
set_option maxRecDepth 100000 in
theorem ti_m_11_217 : ti_MOK 11 217 (0, hX10_steepInAll, 3, 1, yX10_steepInAll) := ⟨ti_in 793 (by decide +kernel) (by decide +kernel), ti_in 90 (by decide +kernel) (by decide +kernel), by decide, rfl, ⟨by decide +kernel, by decide +kernel⟩, by decide, Or.inl ⟨rfl, ti_in 790 (by decide +kernel) (by decide +kernel), ti_in 791 (by decide +kernel) (by decide +kernel), ti_in 792 (by decide +kernel) (by decide +kernel), ⟨TX10, 3, rfl⟩, 0, rfl, by decide +kernel⟩⟩
set_option maxRecDepth 100000 in
theorem ti_m_11_220 : ti_MOK 11 220 (0, hX2_mark, 2, 2, yX2_mark) := ⟨ti_in 801 (by decide +kernel) (by decide +kernel), ti_in 94 (by decide +kernel) (by decide +kernel), by decide, rfl, ⟨by decide +kernel, by decide +kernel⟩, by decide, Or.inl ⟨rfl, ti_in 798 (by decide +kernel) (by decide +kernel), ti_in 799 (by decide +kernel) (by decide +kernel), ti_in 800 (by decide +kernel) (by decide +kernel), ⟨TX2, 6, rfl⟩, 1, rfl, by decide +kernel⟩⟩
set_option maxRecDepth 100000 in
theorem ti_m_11_224 : ti_MOK 11 224 (0, hX7_advance, 5, 4, yX7_advance) := ⟨ti_in 810 (by decide +kernel) (by decide +kernel), ti_in 93 (by decide +kernel) (by decide +kernel), by decide, rfl, ⟨by decide +kernel, by decide +kernel⟩, by decide, Or.inl ⟨rfl, ti_in 807 (by decide +kernel) (by decide +kernel), ti_in 808 (by decide +kernel) (by decide +kernel), ti_in 809 (by decide +kernel) (by decide +kernel), ⟨TX7, 8, rfl⟩, 3, rfl, by decide +kernel⟩⟩
set_option maxRecDepth 100000 in
theorem ti_m_11_228 : ti_MOK 11 228 (0, hX2_settle, 2, 2, yX2_settle) := ⟨ti_in 821 (by decide +kernel) (by decide +kernel), ti_in 94 (by decide +kernel) (by decide +kernel), by decide, rfl, ⟨by decide +kernel, by decide +kernel⟩, by decide, Or.inl ⟨rfl, ti_in 818 (by decide +kernel) (by decide +kernel), ti_in 819 (by decide +kernel) (by decide +kernel), ti_in 820 (by decide +kernel) (by decide +kernel), ⟨TX2, 6, rfl⟩, 1, rfl, by decide +kernel⟩⟩
set_option maxRecDepth 100000 in
theorem ti_m_11_234 : ti_MOK 11 234 (0, hX7_takeHold, 3, 3, yX7_takeHold) := ⟨ti_in 830 (by decide +kernel) (by decide +kernel), ti_in 93 (by decide +kernel) (by decide +kernel), by decide, rfl, ⟨by decide +kernel, by decide +kernel⟩, by decide, Or.inl ⟨rfl, ti_in 827 (by decide +kernel) (by decide +kernel), ti_in 828 (by decide +kernel) (by decide +kernel), ti_in 829 (by decide +kernel) (by decide +kernel), ⟨TX7, 8, rfl⟩, 2, rfl, by decide +kernel⟩⟩
set_option maxRecDepth 100000 in
theorem ti_m_11_238 : ti_MOK 11 238 (0, hX7_letGo, 3, 3, yX7_letGo) := ⟨ti_in 843 (by decide +kernel) (by decide +kernel), ti_in 93 (by decide +kernel) (by decide +kernel), by decide, rfl, ⟨by decide +kernel, by decide +kernel⟩, by decide, Or.inl ⟨rfl, ti_in 840 (by decide +kernel) (by decide +kernel), ti_in 841 (by decide +kernel) (by decide +kernel), ti_in 842 (by decide +kernel) (by decide +kernel), ⟨TX7, 8, rfl⟩, 2, rfl, by decide +kernel⟩⟩
set_option maxRecDepth 100000 in
theorem ti_m_11_241 : ti_MOK 11 241 (0, hX7_follow, 3, 2, yX7_follow) := ⟨ti_in 851 (by decide +kernel) (by decide +kernel), ti_in 93 (by decide +kernel) (by decide +kernel), by decide, rfl, ⟨by decide +kernel, by decide +kernel⟩, by decide, Or.inl ⟨rfl, ti_in 848 (by decide +kernel) (by decide +kernel), ti_in 849 (by decide +kernel) (by decide +kernel), ti_in 850 (by decide +kernel) (by decide +kernel), ⟨TX7, 8, rfl⟩, 1, rfl, by decide +kernel⟩⟩
set_option maxRecDepth 100000 in
theorem ti_m_11_244 : ti_MOK 11 244 (0, hX7_speak, 5, 4, yX7_speak) := ⟨ti_in 859 (by decide +kernel) (by decide +kernel), ti_in 93 (by decide +kernel) (by decide +kernel), by decide, rfl, ⟨by decide +kernel, by decide +kernel⟩, by decide, Or.inl ⟨rfl, ti_in 856 (by decide +kernel) (by decide +kernel), ti_in 857 (by decide +kernel) (by decide +kernel), ti_in 858 (by decide +kernel) (by decide +kernel), ⟨TX7, 8, rfl⟩, 3, rfl, by decide +kernel⟩⟩
set_option maxRecDepth 100000 in
theorem ti_m_11_248 : ti_MOK 11 248 (0, hX11_readActs, 2, 1, yX11_readActs) := ⟨ti_in 884 (by decide +kernel) (by decide +kernel), ti_in 87 (by decide +kernel) (by decide +kernel), by decide, rfl, ⟨by decide +kernel, by decide +kernel⟩, by decide, Or.inl ⟨rfl, ti_in 881 (by decide +kernel) (by decide +kernel), ti_in 883 (by decide +kernel) (by decide +kernel), ti_in 9 (by decide +kernel) (by decide +kernel), ⟨TX11, 13, rfl⟩, 0, rfl, by decide +kernel⟩⟩
set_option maxRecDepth 100000 in
theorem ti_m_11_251 : ti_MOK 11 251 (0, hX11_perform, 3, 2, yX11_perform) := ⟨ti_in 898 (by decide +kernel) (by decide +kernel), ti_in 87 (by decide +kernel) (by decide +kernel), by decide, rfl, ⟨by decide +kernel, by decide +kernel⟩, by decide, Or.inl ⟨rfl, ti_in 895 (by decide +kernel) (by decide +kernel), ti_in 897 (by decide +kernel) (by decide +kernel), ti_in 11 (by decide +kernel) (by decide +kernel), ⟨TX11, 13, rfl⟩, 1, rfl, by decide +kernel⟩⟩
set_option maxRecDepth 100000 in
theorem ti_m_11_254 : ti_MOK 11 254 (0, hX9_open, 2, 2, yX9_open) := ⟨ti_in 509 (by decide +kernel) (by decide +kernel), ti_in 88 (by decide +kernel) (by decide +kernel), by decide, rfl, ⟨by decide +kernel, by decide +kernel⟩, by decide, Or.inl ⟨rfl, ti_in 885 (by decide +kernel) (by decide +kernel), ti_in 507 (by decide +kernel) (by decide +kernel), ti_in 508 (by decide +kernel) (by decide +kernel), ⟨TX9, 5, rfl⟩, 1, rfl, by decide +kernel⟩⟩
set_option maxRecDepth 100000 in
theorem ti_m_11_258 : ti_MOK 11 258 (0, hX9_peek, 1, 1, yX9_peek) := ⟨ti_in 520 (by decide +kernel) (by decide +kernel), ti_in 88 (by decide +kernel) (by decide +kernel), by decide, rfl, ⟨by decide +kernel, by decide +kernel⟩, by decide, Or.inl ⟨rfl, ti_in 886 (by decide +kernel) (by decide +kernel), ti_in 518 (by decide +kernel) (by decide +kernel), ti_in 519 (by decide +kernel) (by decide +kernel), ⟨TX9, 5, rfl⟩, 0, rfl, by decide +kernel⟩⟩
set_option maxRecDepth 100000 in
theorem ti_m_11_261 : ti_MOK 11 261 (0, hX11_readAct, 3, 1, yX11_readAct) := ⟨ti_in 890 (by decide +kernel) (by decide +kernel), ti_in 87 (by decide +kernel) (by decide +kernel), by decide, rfl, ⟨by decide +kernel, by decide +kernel⟩, by decide, Or.inl ⟨rfl, ti_in 887 (by decide +kernel) (by decide +kernel), ti_in 889 (by decide +kernel) (by decide +kernel), ti_in 10 (by decide +kernel) (by decide +kernel), ⟨TX11, 13, rfl⟩, 0, rfl, by decide +kernel⟩⟩
set_option maxRecDepth 100000 in
theorem ti_m_11_264 : ti_MOK 11 264 (0, hX9_skip, 1, 1, yX9_skip) := ⟨ti_in 524 (by decide +kernel) (by decide +kernel), ti_in 88 (by decide +kernel) (by decide +kernel), by decide, rfl, ⟨by decide +kernel, by decide +kernel⟩, by decide, Or.inl ⟨rfl, ti_in 891 (by decide +kernel) (by decide +kernel), ti_in 522 (by decide +kernel) (by decide +kernel), ti_in 523 (by decide +kernel) (by decide +kernel), ⟨TX9, 5, rfl⟩, 0, rfl, by decide +kernel⟩⟩
set_option maxRecDepth 100000 in
theorem ti_m_11_267 : ti_MOK 11 267 (0, hX9_readNumber, 7, 4, yX9_readNumber) := ⟨ti_in 516 (by decide +kernel) (by decide +kernel), ti_in 88 (by decide +kernel) (by decide +kernel), by decide, rfl, ⟨by decide +kernel, by decide +kernel⟩, by decide, Or.inl ⟨rfl, ti_in 892 (by decide +kernel) (by decide +kernel), ti_in 514 (by decide +kernel) (by decide +kernel), ti_in 515 (by decide +kernel) (by decide +kernel), ⟨TX9, 5, rfl⟩, 3, rfl, by decide +kernel⟩⟩
set_option maxRecDepth 100000 in
theorem ti_m_11_271 : ti_MOK 11 271 (0, hX9_passSeventh, 3, 2, yX9_passSeventh) := ⟨ti_in 593 (by decide +kernel) (by decide +kernel), ti_in 88 (by decide +kernel) (by decide +kernel), by decide, rfl, ⟨by decide +kernel, by decide +kernel⟩, by decide, Or.inl ⟨rfl, ti_in 893 (by decide +kernel) (by decide +kernel), ti_in 591 (by decide +kernel) (by decide +kernel), ti_in 592 (by decide +kernel) (by decide +kernel), ⟨TX9, 5, rfl⟩, 1, rfl, by decide +kernel⟩⟩
set_option maxRecDepth 100000 in
theorem ti_m_11_274 : ti_MOK 11 274 (0, hX9_refuse, 1, 1, yX9_refuse) := ⟨ti_in 528 (by decide +kernel) (by decide +kernel), ti_in 88 (by decide +kernel) (by decide +kernel), by decide, rfl, ⟨by decide +kernel, by decide +kernel⟩, by decide, Or.inl ⟨rfl, ti_in 894 (by decide +kernel) (by decide +kernel), ti_in 526 (by decide +kernel) (by decide +kernel), ti_in 527 (by decide +kernel) (by decide +kernel), ⟨TX9, 5, rfl⟩, 0, rfl, by decide +kernel⟩⟩
set_option maxRecDepth 100000 in
theorem ti_m_11_277 : ti_MOK 11 277 (0, hX2_bringBack, 2, 2, yX2_bringBack) := ⟨ti_in 906 (by decide +kernel) (by decide +kernel), ti_in 94 (by decide +kernel) (by decide +kernel), by decide, rfl, ⟨by decide +kernel, by decide +kernel⟩, by decide, Or.inl ⟨rfl, ti_in 903 (by decide +kernel) (by decide +kernel), ti_in 904 (by decide +kernel) (by decide +kernel), ti_in 905 (by decide +kernel) (by decide +kernel), ⟨TX2, 6, rfl⟩, 1, rfl, by decide +kernel⟩⟩
set_option maxRecDepth 100000 in
theorem ti_m_11_281 : ti_MOK 11 281 (0, hX3_staggersAhead, 6, 4, yX3_staggersAhead) := ⟨ti_in 914 (by decide +kernel) (by decide +kernel), ti_in 95 (by decide +kernel) (by decide +kernel), by decide, rfl, ⟨by decide +kernel, by decide +kernel⟩, by decide, Or.inl ⟨rfl, ti_in 911 (by decide +kernel) (by decide +kernel), ti_in 912 (by decide +kernel) (by decide +kernel), ti_in 913 (by decide +kernel) (by decide +kernel), ⟨TX3, 9, rfl⟩, 3, rfl, by decide +kernel⟩⟩
set_option maxRecDepth 100000 in
theorem ti_m_11_285 : ti_MOK 11 285 (0, hX3_firstStagger, 4, 3, yX3_firstStagger) := ⟨ti_in 925 (by decide +kernel) (by decide +kernel), ti_in 95 (by decide +kernel) (by decide +kernel), by decide, rfl, ⟨by decide +kernel, by decide +kernel⟩, by decide, Or.inl ⟨rfl, ti_in 922 (by decide +kernel) (by decide +kernel), ti_in 923 (by decide +kernel) (by decide +kernel), ti_in 924 (by decide +kernel) (by decide +kernel), ⟨TX3, 9, rfl⟩, 2, rfl, by decide +kernel⟩⟩
set_option maxRecDepth 100000 in
theorem ti_m_11_289 : ti_MOK 11 289 (0, hX3_mostLoad, 3, 3, yX3_mostLoad) := ⟨ti_in 933 (by decide +kernel) (by decide +kernel), ti_in 95 (by decide +kernel) (by decide +kernel), by decide, rfl, ⟨by decide +kernel, by decide +kernel⟩, by decide, Or.inl ⟨rfl, ti_in 930 (by decide +kernel) (by decide +kernel), ti_in 931 (by decide +kernel) (by decide +kernel), ti_in 932 (by decide +kernel) (by decide +kernel), ⟨TX3, 9, rfl⟩, 2, rfl, by decide +kernel⟩⟩
set_option maxRecDepth 100000 in
theorem ti_m_11_292 : ti_MOK 11 292 (0, hX3_fewestSayings, 5, 3, yX3_fewestSayings) := ⟨ti_in 949 (by decide +kernel) (by decide +kernel), ti_in 95 (by decide +kernel) (by decide +kernel), by decide, rfl, ⟨by decide +kernel, by decide +kernel⟩, by decide, Or.inl ⟨rfl, ti_in 946 (by decide +kernel) (by decide +kernel), ti_in 947 (by decide +kernel) (by decide +kernel), ti_in 948 (by decide +kernel) (by decide +kernel), ⟨TX3, 9, rfl⟩, 2, rfl, by decide +kernel⟩⟩
set_option maxRecDepth 100000 in
theorem ti_m_11_295 : ti_MOK 11 295 (0, hX3_bestSeventh, 7, 3, yX3_bestSeventh) := ⟨ti_in 975 (by decide +kernel) (by decide +kernel), ti_in 95 (by decide +kernel) (by decide +kernel), by decide, rfl, ⟨by decide +kernel, by decide +kernel⟩, by decide, Or.inl ⟨rfl, ti_in 972 (by decide +kernel) (by decide +kernel), ti_in 973 (by decide +kernel) (by decide +kernel), ti_in 974 (by decide +kernel) (by decide +kernel), ⟨TX3, 9, rfl⟩, 2, rfl, by decide +kernel⟩⟩
set_option maxRecDepth 100000 in
theorem ti_m_11_298 : ti_MOK 11 298 (0, hX3_sayable, 7, 2, yX3_sayable) := ⟨ti_in 983 (by decide +kernel) (by decide +kernel), ti_in 95 (by decide +kernel) (by decide +kernel), by decide, rfl, ⟨by decide +kernel, by decide +kernel⟩, by decide, Or.inl ⟨rfl, ti_in 980 (by decide +kernel) (by decide +kernel), ti_in 981 (by decide +kernel) (by decide +kernel), ti_in 982 (by decide +kernel) (by decide +kernel), ⟨TX3, 9, rfl⟩, 1, rfl, by decide +kernel⟩⟩
set_option maxRecDepth 100000 in
theorem ti_m_11_301 : ti_MOK 11 301 (0, hX8_strongest, 4, 4, yX8_strongest) := ⟨ti_in 992 (by decide +kernel) (by decide +kernel), ti_in 96 (by decide +kernel) (by decide +kernel), by decide, rfl, ⟨by decide +kernel, by decide +kernel⟩, by decide, Or.inl ⟨rfl, ti_in 989 (by decide +kernel) (by decide +kernel), ti_in 990 (by decide +kernel) (by decide +kernel), ti_in 991 (by decide +kernel) (by decide +kernel), ⟨TX8, 4, rfl⟩, 3, rfl, by decide +kernel⟩⟩
set_option maxRecDepth 100000 in
theorem ti_m_11_304 : ti_MOK 11 304 (0, hX8_smallest, 6, 3, yX8_smallest) := ⟨ti_in 1007 (by decide +kernel) (by decide +kernel), ti_in 96 (by decide +kernel) (by decide +kernel), by decide, rfl, ⟨by decide +kernel, by decide +kernel⟩, by decide, Or.inl ⟨rfl, ti_in 1004 (by decide +kernel) (by decide +kernel), ti_in 1005 (by decide +kernel) (by decide +kernel), ti_in 1006 (by decide +kernel) (by decide +kernel), ⟨TX8, 4, rfl⟩, 2, rfl, by decide +kernel⟩⟩
set_option maxRecDepth 100000 in
theorem ti_m_11_307 : ti_MOK 11 307 (0, hX8_bestChange, 7, 3, yX8_bestChange) := ⟨ti_in 1022 (by decide +kernel) (by decide +kernel), ti_in 96 (by decide +kernel) (by decide +kernel), by decide, rfl, ⟨by decide +kernel, by decide +kernel⟩, by decide, Or.inl ⟨rfl, ti_in 1019 (by decide +kernel) (by decide +kernel), ti_in 1020 (by decide +kernel) (by decide +kernel), ti_in 1021 (by decide +kernel) (by decide +kernel), ⟨TX8, 4, rfl⟩, 2, rfl, by decide +kernel⟩⟩
set_option maxRecDepth 100000 in
theorem ti_m_11_310 : ti_MOK 11 310 (0, hX8_needed, 5, 3, yX8_needed) := ⟨ti_in 1030 (by decide +kernel) (by decide +kernel), ti_in 96 (by decide +kernel) (by decide +kernel), by decide, rfl, ⟨by decide +kernel, by decide +kernel⟩, by decide, Or.inl ⟨rfl, ti_in 1027 (by decide +kernel) (by decide +kernel), ti_in 1028 (by decide +kernel) (by decide +kernel), ti_in 1029 (by decide +kernel) (by decide +kernel), ⟨TX8, 4, rfl⟩, 2, rfl, by decide +kernel⟩⟩
set_option maxRecDepth 100000 in
theorem ti_m_11_313 : ti_MOK 11 313 (0, hX4_tell, 3, 2, yX4_tell) := ⟨ti_in 737 (by decide +kernel) (by decide +kernel), ti_in 89 (by decide +kernel) (by decide +kernel), by decide, rfl, ⟨by decide +kernel, by decide +kernel⟩, by decide, Or.inl ⟨rfl, ti_in 1040 (by decide +kernel) (by decide +kernel), ti_in 735 (by decide +kernel) (by decide +kernel), ti_in 736 (by decide +kernel) (by decide +kernel), ⟨TX4, 2, rfl⟩, 1, rfl, by decide +kernel⟩⟩
set_option maxRecDepth 100000 in
theorem ti_m_11_316 : ti_MOK 11 316 (0, hX8_mostUneven, 6, 2, yX8_mostUneven) := ⟨ti_in 1048 (by decide +kernel) (by decide +kernel), ti_in 96 (by decide +kernel) (by decide +kernel), by decide, rfl, ⟨by decide +kernel, by decide +kernel⟩, by decide, Or.inl ⟨rfl, ti_in 1045 (by decide +kernel) (by decide +kernel), ti_in 1046 (by decide +kernel) (by decide +kernel), ti_in 1047 (by decide +kernel) (by decide +kernel), ⟨TX8, 4, rfl⟩, 1, rfl, by decide +kernel⟩⟩
set_option maxRecDepth 100000 in
theorem ti_m_11_319 : ti_MOK 11 319 (0, hX6_holds, 2, 2, yX6_holds) := ⟨ti_in 1059 (by decide +kernel) (by decide +kernel), ti_in 92 (by decide +kernel) (by decide +kernel), by decide, rfl, ⟨by decide +kernel, by decide +kernel⟩, by decide, Or.inl ⟨rfl, ti_in 1056 (by decide +kernel) (by decide +kernel), ti_in 1057 (by decide +kernel) (by decide +kernel), ti_in 1058 (by decide +kernel) (by decide +kernel), ⟨TX6, 5, rfl⟩, 1, rfl, by decide +kernel⟩⟩
set_option maxRecDepth 100000 in
theorem ti_m_11_322 : ti_MOK 11 322 (0, hX1_fewestKnowers, 4, 2, yX1_fewestKnowers) := ⟨ti_in 1063 (by decide +kernel) (by decide +kernel), ti_in 97 (by decide +kernel) (by decide +kernel), by decide, rfl, ⟨by decide +kernel, by decide +kernel⟩, by decide, Or.inl ⟨rfl, ti_in 1060 (by decide +kernel) (by decide +kernel), ti_in 1061 (by decide +kernel) (by decide +kernel), ti_in 1062 (by decide +kernel) (by decide +kernel), ⟨TX1, 14, rfl⟩, 1, rfl, by decide +kernel⟩⟩
set_option maxRecDepth 100000 in
theorem ti_m_11_328 : ti_MOK 11 328 (0, hX6_knownTo, 4, 2, yX6_knownTo) := ⟨ti_in 957 (by decide +kernel) (by decide +kernel), ti_in 92 (by decide +kernel) (by decide +kernel), by decide, rfl, ⟨by decide +kernel, by decide +kernel⟩, by decide, Or.inl ⟨rfl, ti_in 1074 (by decide +kernel) (by decide +kernel), ti_in 955 (by decide +kernel) (by decide +kernel), ti_in 956 (by decide +kernel) (by decide +kernel), ⟨TX6, 5, rfl⟩, 1, rfl, by decide +kernel⟩⟩
set_option maxRecDepth 100000 in
theorem ti_m_11_331 : ti_MOK 11 331 (0, hX6_weightOf, 2, 2, yX6_weightOf) := ⟨ti_in 1078 (by decide +kernel) (by decide +kernel), ti_in 92 (by decide +kernel) (by decide +kernel), by decide, rfl, ⟨by decide +kernel, by decide +kernel⟩, by decide, Or.inl ⟨rfl, ti_in 1075 (by decide +kernel) (by decide +kernel), ti_in 1076 (by decide +kernel) (by decide +kernel), ti_in 1077 (by decide +kernel) (by decide +kernel), ⟨TX6, 5, rfl⟩, 1, rfl, by decide +kernel⟩⟩
set_option maxRecDepth 100000 in
theorem ti_m_11_334 : ti_MOK 11 334 (0, hX1_knownToJust, 4, 2, yX1_knownToJust) := ⟨ti_in 1090 (by decide +kernel) (by decide +kernel), ti_in 97 (by decide +kernel) (by decide +kernel), by decide, rfl, ⟨by decide +kernel, by decide +kernel⟩, by decide, Or.inl ⟨rfl, ti_in 1087 (by decide +kernel) (by decide +kernel), ti_in 1088 (by decide +kernel) (by decide +kernel), ti_in 1089 (by decide +kernel) (by decide +kernel), ⟨TX1, 14, rfl⟩, 1, rfl, by decide +kernel⟩⟩
set_option maxRecDepth 100000 in
theorem ti_m_11_337 : ti_MOK 11 337 (0, hX1_mostLightening, 9, 2, yX1_mostLightening) := ⟨ti_in 1100 (by decide +kernel) (by decide +kernel), ti_in 97 (by decide +kernel) (by decide +kernel), by decide, rfl, ⟨by decide +kernel, by decide +kernel⟩, by decide, Or.inl ⟨rfl, ti_in 1097 (by decide +kernel) (by decide +kernel), ti_in 1098 (by decide +kernel) (by decide +kernel), ti_in 1099 (by decide +kernel) (by decide +kernel), ⟨TX1, 14, rfl⟩, 1, rfl, by decide +kernel⟩⟩
set_option maxRecDepth 100000 in
theorem ti_m_11_340 : ti_MOK 11 340 (0, hX1_addOldWalk, 3, 3, yX1_addOldWalk) := ⟨ti_in 1109 (by decide +kernel) (by decide +kernel), ti_in 97 (by decide +kernel) (by decide +kernel), by decide, rfl, ⟨by decide +kernel, by decide +kernel⟩, by decide, Or.inl ⟨rfl, ti_in 1106 (by decide +kernel) (by decide +kernel), ti_in 1107 (by decide +kernel) (by decide +kernel), ti_in 1108 (by decide +kernel) (by decide +kernel), ⟨TX1, 14, rfl⟩, 2, rfl, by decide +kernel⟩⟩
set_option maxRecDepth 100000 in
theorem ti_m_11_344 : ti_MOK 11 344 (0, hX1_forgetOldWalks, 2, 1, yX1_forgetOldWalks) := ⟨ti_in 1117 (by decide +kernel) (by decide +kernel), ti_in 97 (by decide +kernel) (by decide +kernel), by decide, rfl, ⟨by decide +kernel, by decide +kernel⟩, by decide, Or.inl ⟨rfl, ti_in 1114 (by decide +kernel) (by decide +kernel), ti_in 1115 (by decide +kernel) (by decide +kernel), ti_in 1116 (by decide +kernel) (by decide +kernel), ⟨TX1, 14, rfl⟩, 0, rfl, by decide +kernel⟩⟩
set_option maxRecDepth 100000 in
theorem ti_m_11_347 : ti_MOK 11 347 (0, hX1_countWorlds, 1, 1, yX1_countWorlds) := ⟨ti_in 1125 (by decide +kernel) (by decide +kernel), ti_in 97 (by decide +kernel) (by decide +kernel), by decide, rfl, ⟨by decide +kernel, by decide +kernel⟩, by decide, Or.inl ⟨rfl, ti_in 1122 (by decide +kernel) (by decide +kernel), ti_in 1123 (by decide +kernel) (by decide +kernel), ti_in 1124 (by decide +kernel) (by decide +kernel), ⟨TX1, 14, rfl⟩, 0, rfl, by decide +kernel⟩⟩
set_option maxRecDepth 100000 in
theorem ti_m_11_350 : ti_MOK 11 350 (0, hX1_trueInAll, 1, 1, yX1_trueInAll) := ⟨ti_in 1145 (by decide +kernel) (by decide +kernel), ti_in 97 (by decide +kernel) (by decide +kernel), by decide, rfl, ⟨by decide +kernel, by decide +kernel⟩, by decide, Or.inl ⟨rfl, ti_in 1142 (by decide +kernel) (by decide +kernel), ti_in 1143 (by decide +kernel) (by decide +kernel), ti_in 1144 (by decide +kernel) (by decide +kernel), ⟨TX1, 14, rfl⟩, 0, rfl, by decide +kernel⟩⟩
set_option maxRecDepth 100000 in
theorem ti_m_11_353 : ti_MOK 11 353 (0, hX1_bestQuestion, 5, 1, yX1_bestQuestion) := ⟨ti_in 1153 (by decide +kernel) (by decide +kernel), ti_in 97 (by decide +kernel) (by decide +kernel), by decide, rfl, ⟨by decide +kernel, by decide +kernel⟩, by decide, Or.inl ⟨rfl, ti_in 1150 (by decide +kernel) (by decide +kernel), ti_in 1151 (by decide +kernel) (by decide +kernel), ti_in 1152 (by decide +kernel) (by decide +kernel), ⟨TX1, 14, rfl⟩, 0, rfl, by decide +kernel⟩⟩
set_option maxRecDepth 100000 in
theorem ti_m_11_364 : ti_MOK 11 364 (0, hX1_leastHarm, 7, 3, yX1_leastHarm) := ⟨ti_in 1164 (by decide +kernel) (by decide +kernel), ti_in 97 (by decide +kernel) (by decide +kernel), by decide, rfl, ⟨by decide +kernel, by decide +kernel⟩, by decide, Or.inl ⟨rfl, ti_in 1161 (by decide +kernel) (by decide +kernel), ti_in 1162 (by decide +kernel) (by decide +kernel), ti_in 1163 (by decide +kernel) (by decide +kernel), ⟨TX1, 14, rfl⟩, 2, rfl, by decide +kernel⟩⟩
set_option maxRecDepth 100000 in
theorem ti_m_11_367 : ti_MOK 11 367 (0, hX1_addClaim, 4, 4, yX1_addClaim) := ⟨ti_in 1185 (by decide +kernel) (by decide +kernel), ti_in 97 (by decide +kernel) (by decide +kernel), by decide, rfl, ⟨by decide +kernel, by decide +kernel⟩, by decide, Or.inl ⟨rfl, ti_in 1182 (by decide +kernel) (by decide +kernel), ti_in 1183 (by decide +kernel) (by decide +kernel), ti_in 1184 (by decide +kernel) (by decide +kernel), ⟨TX1, 14, rfl⟩, 3, rfl, by decide +kernel⟩⟩
set_option maxRecDepth 100000 in
theorem ti_m_11_370 : ti_MOK 11 370 (0, hX1_takeClaimsBack, 2, 1, yX1_takeClaimsBack) := ⟨ti_in 1193 (by decide +kernel) (by decide +kernel), ti_in 97 (by decide +kernel) (by decide +kernel), by decide, rfl, ⟨by decide +kernel, by decide +kernel⟩, by decide, Or.inl ⟨rfl, ti_in 1190 (by decide +kernel) (by decide +kernel), ti_in 1191 (by decide +kernel) (by decide +kernel), ti_in 1192 (by decide +kernel) (by decide +kernel), ⟨TX1, 14, rfl⟩, 0, rfl, by decide +kernel⟩⟩
set_option maxRecDepth 100000 in
theorem ti_m_11_373 : ti_MOK 11 373 (0, hX1_fewestDisbelieved, 3, 1, yX1_fewestDisbelieved) := ⟨ti_in 1201 (by decide +kernel) (by decide +kernel), ti_in 97 (by decide +kernel) (by decide +kernel), by decide, rfl, ⟨by decide +kernel, by decide +kernel⟩, by decide, Or.inl ⟨rfl, ti_in 1198 (by decide +kernel) (by decide +kernel), ti_in 1199 (by decide +kernel) (by decide +kernel), ti_in 1200 (by decide +kernel) (by decide +kernel), ⟨TX1, 14, rfl⟩, 0, rfl, by decide +kernel⟩⟩
set_option maxRecDepth 100000 in
theorem ti_m_11_376 : ti_MOK 11 376 (0, hX8_chanceToStand, 7, 4, yX8_chanceToStand) := ⟨ti_in 1214 (by decide +kernel) (by decide +kernel), ti_in 96 (by decide +kernel) (by decide +kernel), by decide, rfl, ⟨by decide +kernel, by decide +kernel⟩, by decide, Or.inl ⟨rfl, ti_in 1211 (by decide +kernel) (by decide +kernel), ti_in 1212 (by decide +kernel) (by decide +kernel), ti_in 1213 (by decide +kernel) (by decide +kernel), ⟨TX8, 4, rfl⟩, 3, rfl, by decide +kernel⟩⟩
set_option maxRecDepth 100000 in
theorem ti_m_11_379 : ti_MOK 11 379 (0, hX4_clear, 1, 1, yX4_clear) := ⟨ti_in 741 (by decide +kernel) (by decide +kernel), ti_in 89 (by decide +kernel) (by decide +kernel), by decide, rfl, ⟨by decide +kernel, by decide +kernel⟩, by decide, Or.inl ⟨rfl, ti_in 1227 (by decide +kernel) (by decide +kernel), ti_in 739 (by decide +kernel) (by decide +kernel), ti_in 740 (by decide +kernel) (by decide +kernel), ⟨TX4, 2, rfl⟩, 0, rfl, by decide +kernel⟩⟩
set_option maxRecDepth 100000 in
theorem ti_m_11_382 : ti_MOK 11 382 (1, hX11_isBestBid, 5, 3, yX11_isBestBid) := ⟨ti_in 1230 (by decide +kernel) (by decide +kernel), ti_in 87 (by decide +kernel) (by decide +kernel), by decide, rfl, ⟨by decide +kernel, by decide +kernel⟩, by decide, Or.inr (Or.inl ⟨rfl, ti_in 1228 (by decide +kernel) (by decide +kernel), ti_in 1229 (by decide +kernel) (by decide +kernel), by decide +kernel⟩)⟩
set_option maxRecDepth 100000 in
theorem ti_m_11_386 : ti_MOK 11 386 (1, hX11_bidGets, 3, 3, yX11_bidGets) := ⟨ti_in 1233 (by decide +kernel) (by decide +kernel), ti_in 87 (by decide +kernel) (by decide +kernel), by decide, rfl, ⟨by decide +kernel, by decide +kernel⟩, by decide, Or.inr (Or.inl ⟨rfl, ti_in 1231 (by decide +kernel) (by decide +kernel), ti_in 1232 (by decide +kernel) (by decide +kernel), by decide +kernel⟩)⟩
set_option maxRecDepth 100000 in
theorem ti_m_11_389 : ti_MOK 11 389 (1, hX11_cornerOrTwelve, 1, 1, yX11_cornerOrTwelve) := ⟨ti_in 1240 (by decide +kernel) (by decide +kernel), ti_in 87 (by decide +kernel) (by decide +kernel), by decide, rfl, ⟨by decide +kernel, by decide +kernel⟩, by decide, Or.inr (Or.inl ⟨rfl, ti_in 1238 (by decide +kernel) (by decide +kernel), ti_in 1239 (by decide +kernel) (by decide +kernel), by decide +kernel⟩)⟩
set_option maxRecDepth 100000 in
theorem ti_m_11_392 : ti_MOK 11 392 (0, hX3_staggersDrawn, 6, 5, yX3_staggersDrawn) := ⟨ti_in 1248 (by decide +kernel) (by decide +kernel), ti_in 95 (by decide +kernel) (by decide +kernel), by decide, rfl, ⟨by decide +kernel, by decide +kernel⟩, by decide, Or.inl ⟨rfl, ti_in 1245 (by decide +kernel) (by decide +kernel), ti_in 1246 (by decide +kernel) (by decide +kernel), ti_in 1247 (by decide +kernel) (by decide +kernel), ⟨TX3, 9, rfl⟩, 4, rfl, by decide +kernel⟩⟩
set_option maxRecDepth 100000 in
theorem ti_m_11_396 : ti_MOK 11 396 (0, hX2_keepUnder, 3, 3, yX2_keepUnder) := ⟨ti_in 1273 (by decide +kernel) (by decide +kernel), ti_in 94 (by decide +kernel) (by decide +kernel), by decide, rfl, ⟨by decide +kernel, by decide +kernel⟩, by decide, Or.inl ⟨rfl, ti_in 1270 (by decide +kernel) (by decide +kernel), ti_in 1271 (by decide +kernel) (by decide +kernel), ti_in 1272 (by decide +kernel) (by decide +kernel), ⟨TX2, 6, rfl⟩, 2, rfl, by decide +kernel⟩⟩
set_option maxRecDepth 100000 in
theorem ti_m_11_400 : ti_MOK 11 400 (0, hX2_bringBackKept, 3, 3, yX2_bringBackKept) := ⟨ti_in 1281 (by decide +kernel) (by decide +kernel), ti_in 94 (by decide +kernel) (by decide +kernel), by decide, rfl, ⟨by decide +kernel, by decide +kernel⟩, by decide, Or.inl ⟨rfl, ti_in 1278 (by decide +kernel) (by decide +kernel), ti_in 1279 (by decide +kernel) (by decide +kernel), ti_in 1280 (by decide +kernel) (by decide +kernel), ⟨TX2, 6, rfl⟩, 2, rfl, by decide +kernel⟩⟩
set_option maxRecDepth 100000 in
theorem ti_m_11_410 : ti_MOK 11 410 (0, hX4_size, 1, 1, yX4_size) := ⟨ti_in 1289 (by decide +kernel) (by decide +kernel), ti_in 89 (by decide +kernel) (by decide +kernel), by decide, rfl, ⟨by decide +kernel, by decide +kernel⟩, by decide, Or.inl ⟨rfl, ti_in 1286 (by decide +kernel) (by decide +kernel), ti_in 1287 (by decide +kernel) (by decide +kernel), ti_in 1288 (by decide +kernel) (by decide +kernel), ⟨TX4, 2, rfl⟩, 0, rfl, by decide +kernel⟩⟩
set_option maxRecDepth 100000 in
theorem ti_m_11_413 : ti_MOK 11 413 (0, hX4_at, 2, 2, yX4_at) := ⟨ti_in 1385 (by decide +kernel) (by decide +kernel), ti_in 89 (by decide +kernel) (by decide +kernel), by decide, rfl, ⟨by decide +kernel, by decide +kernel⟩, by decide, Or.inl ⟨rfl, ti_in 1382 (by decide +kernel) (by decide +kernel), ti_in 1383 (by decide +kernel) (by decide +kernel), ti_in 1384 (by decide +kernel) (by decide +kernel), ⟨TX4, 2, rfl⟩, 1, rfl, by decide +kernel⟩⟩
theorem ti_mok_11 : ∀ e ∈ ti_mr_11, ti_MOK 11 e.1 e.2 := List.forall_mem_cons.mpr ⟨ti_m_11_101, List.forall_mem_cons.mpr ⟨ti_m_11_105, List.forall_mem_cons.mpr ⟨ti_m_11_109, List.forall_mem_cons.mpr ⟨ti_m_11_121, List.forall_mem_cons.mpr ⟨ti_m_11_127, List.forall_mem_cons.mpr ⟨ti_m_11_131, List.forall_mem_cons.mpr ⟨ti_m_11_134, List.forall_mem_cons.mpr ⟨ti_m_11_140, List.forall_mem_cons.mpr ⟨ti_m_11_142, List.forall_mem_cons.mpr ⟨ti_m_11_143, List.forall_mem_cons.mpr ⟨ti_m_11_165, List.forall_mem_cons.mpr ⟨ti_m_11_171, List.forall_mem_cons.mpr ⟨ti_m_11_177, List.forall_mem_cons.mpr ⟨ti_m_11_197, List.forall_mem_cons.mpr ⟨ti_m_11_200, List.forall_mem_cons.mpr ⟨ti_m_11_205, List.forall_mem_cons.mpr ⟨ti_m_11_209, List.forall_mem_cons.mpr ⟨ti_m_11_213, List.forall_mem_cons.mpr ⟨ti_m_11_217, List.forall_mem_cons.mpr ⟨ti_m_11_220, List.forall_mem_cons.mpr ⟨ti_m_11_224, List.forall_mem_cons.mpr ⟨ti_m_11_228, List.forall_mem_cons.mpr ⟨ti_m_11_234, List.forall_mem_cons.mpr ⟨ti_m_11_238, List.forall_mem_cons.mpr ⟨ti_m_11_241, List.forall_mem_cons.mpr ⟨ti_m_11_244, List.forall_mem_cons.mpr ⟨ti_m_11_248, List.forall_mem_cons.mpr ⟨ti_m_11_251, List.forall_mem_cons.mpr ⟨ti_m_11_254, List.forall_mem_cons.mpr ⟨ti_m_11_258, List.forall_mem_cons.mpr ⟨ti_m_11_261, List.forall_mem_cons.mpr ⟨ti_m_11_264, List.forall_mem_cons.mpr ⟨ti_m_11_267, List.forall_mem_cons.mpr ⟨ti_m_11_271, List.forall_mem_cons.mpr ⟨ti_m_11_274, List.forall_mem_cons.mpr ⟨ti_m_11_277, List.forall_mem_cons.mpr ⟨ti_m_11_281, List.forall_mem_cons.mpr ⟨ti_m_11_285, List.forall_mem_cons.mpr ⟨ti_m_11_289, List.forall_mem_cons.mpr ⟨ti_m_11_292, List.forall_mem_cons.mpr ⟨ti_m_11_295, List.forall_mem_cons.mpr ⟨ti_m_11_298, List.forall_mem_cons.mpr ⟨ti_m_11_301, List.forall_mem_cons.mpr ⟨ti_m_11_304, List.forall_mem_cons.mpr ⟨ti_m_11_307, List.forall_mem_cons.mpr ⟨ti_m_11_310, List.forall_mem_cons.mpr ⟨ti_m_11_313, List.forall_mem_cons.mpr ⟨ti_m_11_316, List.forall_mem_cons.mpr ⟨ti_m_11_319, List.forall_mem_cons.mpr ⟨ti_m_11_322, List.forall_mem_cons.mpr ⟨ti_m_11_328, List.forall_mem_cons.mpr ⟨ti_m_11_331, List.forall_mem_cons.mpr ⟨ti_m_11_334, List.forall_mem_cons.mpr ⟨ti_m_11_337, List.forall_mem_cons.mpr ⟨ti_m_11_340, List.forall_mem_cons.mpr ⟨ti_m_11_344, List.forall_mem_cons.mpr ⟨ti_m_11_347, List.forall_mem_cons.mpr ⟨ti_m_11_350, List.forall_mem_cons.mpr ⟨ti_m_11_353, List.forall_mem_cons.mpr ⟨ti_m_11_364, List.forall_mem_cons.mpr ⟨ti_m_11_367, List.forall_mem_cons.mpr ⟨ti_m_11_370, List.forall_mem_cons.mpr ⟨ti_m_11_373, List.forall_mem_cons.mpr ⟨ti_m_11_376, List.forall_mem_cons.mpr ⟨ti_m_11_379, List.forall_mem_cons.mpr ⟨ti_m_11_382, List.forall_mem_cons.mpr ⟨ti_m_11_386, List.forall_mem_cons.mpr ⟨ti_m_11_389, List.forall_mem_cons.mpr ⟨ti_m_11_392, List.forall_mem_cons.mpr ⟨ti_m_11_396, List.forall_mem_cons.mpr ⟨ti_m_11_400, List.forall_mem_cons.mpr ⟨ti_m_11_410, List.forall_mem_cons.mpr ⟨ti_m_11_413, fun _ h => absurd h List.not_mem_nil⟩⟩⟩⟩⟩⟩⟩⟩⟩⟩⟩⟩⟩⟩⟩⟩⟩⟩⟩⟩⟩⟩⟩⟩⟩⟩⟩⟩⟩⟩⟩⟩⟩⟩⟩⟩⟩⟩⟩⟩⟩⟩⟩⟩⟩⟩⟩⟩⟩⟩⟩⟩⟩⟩⟩⟩⟩⟩⟩⟩⟩⟩⟩⟩⟩⟩⟩⟩⟩⟩⟩⟩⟩
theorem ti_b_11_356 : ti_BOK 11 356 1 := ⟨fun h => absurd h (by decide), fun _ => ti_in 1159 (by decide +kernel) (by decide +kernel), fun h => absurd h (by decide), fun h => absurd h (by decide), fun h => absurd h (by decide)⟩
theorem ti_b_11_361 : ti_BOK 11 361 0 := ⟨fun _ => ti_in 1160 (by decide +kernel) (by decide +kernel), fun h => absurd h (by decide), fun h => absurd h (by decide), fun h => absurd h (by decide), fun h => absurd h (by decide)⟩
theorem ti_bok_11 : ∀ e ∈ ti_br_11, ti_BOK 11 e.1 e.2 := List.forall_mem_cons.mpr ⟨ti_b_11_356, List.forall_mem_cons.mpr ⟨ti_b_11_361, fun _ h => absurd h List.not_mem_nil⟩⟩
theorem ti_f_12_9 : ti_FOK 12 9 12 0 2 := ⟨RX12, TX12, 43, rfl, by decide, rfl, Or.inl (ti_in 1393 (by decide +kernel) (by decide +kernel)), fun h => absurd h (by decide), fun h => absurd h (by decide), fun h => absurd h (by decide)⟩
theorem ti_f_12_13 : ti_FOK 12 13 12 1 0 := ⟨RX12, TX12, 43, rfl, by decide, rfl, Or.inl (ti_in 1394 (by decide +kernel) (by decide +kernel)), fun _ => ⟨rfl, by decide +kernel⟩, fun h => absurd h (by decide), fun h => absurd h (by decide)⟩
theorem ti_f_12_17 : ti_FOK 12 17 12 2 2 := ⟨RX12, TX12, 43, rfl, by decide, rfl, Or.inl (ti_in 1395 (by decide +kernel) (by decide +kernel)), fun h => absurd h (by decide), fun h => absurd h (by decide), fun h => absurd h (by decide)⟩
theorem ti_f_12_20 : ti_FOK 12 20 12 4 2 := ⟨RX12, TX12, 43, rfl, by decide, rfl, Or.inl (ti_in 1397 (by decide +kernel) (by decide +kernel)), fun h => absurd h (by decide), fun h => absurd h (by decide), fun h => absurd h (by decide)⟩
theorem ti_f_12_23 : ti_FOK 12 23 12 5 2 := ⟨RX12, TX12, 43, rfl, by decide, rfl, Or.inl (ti_in 1398 (by decide +kernel) (by decide +kernel)), fun h => absurd h (by decide), fun h => absurd h (by decide), fun h => absurd h (by decide)⟩
theorem ti_f_12_26 : ti_FOK 12 26 12 7 2 := ⟨RX12, TX12, 43, rfl, by decide, rfl, Or.inl (ti_in 1400 (by decide +kernel) (by decide +kernel)), fun h => absurd h (by decide), fun h => absurd h (by decide), fun h => absurd h (by decide)⟩
theorem ti_f_12_29 : ti_FOK 12 29 12 8 2 := ⟨RX12, TX12, 43, rfl, by decide, rfl, Or.inl (ti_in 1401 (by decide +kernel) (by decide +kernel)), fun h => absurd h (by decide), fun h => absurd h (by decide), fun h => absurd h (by decide)⟩
theorem ti_f_12_33 : ti_FOK 12 33 12 10 2 := ⟨RX12, TX12, 43, rfl, by decide, rfl, Or.inl (ti_in 1403 (by decide +kernel) (by decide +kernel)), fun h => absurd h (by decide), fun h => absurd h (by decide), fun h => absurd h (by decide)⟩
theorem ti_f_12_37 : ti_FOK 12 37 12 18 2 := ⟨RX12, TX12, 43, rfl, by decide, rfl, Or.inl (ti_in 1411 (by decide +kernel) (by decide +kernel)), fun h => absurd h (by decide), fun h => absurd h (by decide), fun h => absurd h (by decide)⟩
theorem ti_f_12_40 : ti_FOK 12 40 12 19 3 := ⟨RX12, TX12, 43, rfl, by decide, rfl, Or.inl (ti_in 1412 (by decide +kernel) (by decide +kernel)), fun h => absurd h (by decide), fun h => absurd h (by decide), fun _ => ⟨rfl, tyX12 19, by decide +kernel, fun _ => ⟨rfl, rfl⟩⟩⟩
theorem ti_f_12_43 : ti_FOK 12 43 12 20 3 := ⟨RX12, TX12, 43, rfl, by decide, rfl, Or.inl (ti_in 1413 (by decide +kernel) (by decide +kernel)), fun h => absurd h (by decide), fun h => absurd h (by decide), fun _ => ⟨rfl, tyX12 20, by decide +kernel, fun _ => ⟨rfl, rfl⟩⟩⟩
theorem ti_f_12_46 : ti_FOK 12 46 12 23 2 := ⟨RX12, TX12, 43, rfl, by decide, rfl, Or.inl (ti_in 1416 (by decide +kernel) (by decide +kernel)), fun h => absurd h (by decide), fun h => absurd h (by decide), fun h => absurd h (by decide)⟩
theorem ti_f_12_49 : ti_FOK 12 49 12 24 2 := ⟨RX12, TX12, 43, rfl, by decide, rfl, Or.inl (ti_in 1417 (by decide +kernel) (by decide +kernel)), fun h => absurd h (by decide), fun h => absurd h (by decide), fun h => absurd h (by decide)⟩
theorem ti_f_12_52 : ti_FOK 12 52 12 26 2 := ⟨RX12, TX12, 43, rfl, by decide, rfl, Or.inl (ti_in 1419 (by decide +kernel) (by decide +kernel)), fun h => absurd h (by decide), fun h => absurd h (by decide), fun h => absurd h (by decide)⟩
theorem ti_f_12_55 : ti_FOK 12 55 12 27 2 := ⟨RX12, TX12, 43, rfl, by decide, rfl, Or.inl (ti_in 1420 (by decide +kernel) (by decide +kernel)), fun h => absurd h (by decide), fun h => absurd h (by decide), fun h => absurd h (by decide)⟩
theorem ti_f_12_58 : ti_FOK 12 58 12 28 2 := ⟨RX12, TX12, 43, rfl, by decide, rfl, Or.inl (ti_in 1421 (by decide +kernel) (by decide +kernel)), fun h => absurd h (by decide), fun h => absurd h (by decide), fun h => absurd h (by decide)⟩
theorem ti_f_12_61 : ti_FOK 12 61 12 29 2 := ⟨RX12, TX12, 43, rfl, by decide, rfl, Or.inl (ti_in 1422 (by decide +kernel) (by decide +kernel)), fun h => absurd h (by decide), fun h => absurd h (by decide), fun h => absurd h (by decide)⟩
theorem ti_f_12_64 : ti_FOK 12 64 12 30 2 := ⟨RX12, TX12, 43, rfl, by decide, rfl, Or.inl (ti_in 1423 (by decide +kernel) (by decide +kernel)), fun h => absurd h (by decide), fun h => absurd h (by decide), fun h => absurd h (by decide)⟩
theorem ti_f_12_67 : ti_FOK 12 67 12 31 2 := ⟨RX12, TX12, 43, rfl, by decide, rfl, Or.inl (ti_in 1424 (by decide +kernel) (by decide +kernel)), fun h => absurd h (by decide), fun h => absurd h (by decide), fun h => absurd h (by decide)⟩
theorem ti_f_12_70 : ti_FOK 12 70 12 32 2 := ⟨RX12, TX12, 43, rfl, by decide, rfl, Or.inl (ti_in 1425 (by decide +kernel) (by decide +kernel)), fun h => absurd h (by decide), fun h => absurd h (by decide), fun h => absurd h (by decide)⟩
theorem ti_f_12_73 : ti_FOK 12 73 12 34 2 := ⟨RX12, TX12, 43, rfl, by decide, rfl, Or.inl (ti_in 1427 (by decide +kernel) (by decide +kernel)), fun h => absurd h (by decide), fun h => absurd h (by decide), fun h => absurd h (by decide)⟩
theorem ti_f_12_76 : ti_FOK 12 76 12 36 2 := ⟨RX12, TX12, 43, rfl, by decide, rfl, Or.inl (ti_in 1429 (by decide +kernel) (by decide +kernel)), fun h => absurd h (by decide), fun h => absurd h (by decide), fun h => absurd h (by decide)⟩
theorem ti_f_12_79 : ti_FOK 12 79 12 40 2 := ⟨RX12, TX12, 43, rfl, by decide, rfl, Or.inl (ti_in 1433 (by decide +kernel) (by decide +kernel)), fun h => absurd h (by decide), fun h => absurd h (by decide), fun h => absurd h (by decide)⟩
theorem ti_f_12_82 : ti_FOK 12 82 12 41 2 := ⟨RX12, TX12, 43, rfl, by decide, rfl, Or.inl (ti_in 1434 (by decide +kernel) (by decide +kernel)), fun h => absurd h (by decide), fun h => absurd h (by decide), fun h => absurd h (by decide)⟩
theorem ti_f_12_86 : ti_FOK 12 86 12 42 2 := ⟨RX12, TX12, 43, rfl, by decide, rfl, Or.inl (ti_in 1435 (by decide +kernel) (by decide +kernel)), fun h => absurd h (by decide), fun h => absurd h (by decide), fun h => absurd h (by decide)⟩
theorem ti_f_12_89 : ti_FOK 12 89 12 12 0 := ⟨RX12, TX12, 43, rfl, by decide, rfl, Or.inl (ti_in 1405 (by decide +kernel) (by decide +kernel)), fun _ => ⟨rfl, by decide +kernel⟩, fun h => absurd h (by decide), fun h => absurd h (by decide)⟩
theorem ti_f_12_92 : ti_FOK 12 92 12 11 0 := ⟨RX12, TX12, 43, rfl, by decide, rfl, Or.inl (ti_in 1404 (by decide +kernel) (by decide +kernel)), fun _ => ⟨rfl, by decide +kernel⟩, fun h => absurd h (by decide), fun h => absurd h (by decide)⟩
theorem ti_f_12_95 : ti_FOK 12 95 12 3 0 := ⟨RX12, TX12, 43, rfl, by decide, rfl, Or.inl (ti_in 1396 (by decide +kernel) (by decide +kernel)), fun _ => ⟨rfl, by decide +kernel⟩, fun h => absurd h (by decide), fun h => absurd h (by decide)⟩
theorem ti_f_12_102 : ti_FOK 12 102 12 6 0 := ⟨RX12, TX12, 43, rfl, by decide, rfl, Or.inl (ti_in 1399 (by decide +kernel) (by decide +kernel)), fun _ => ⟨rfl, by decide +kernel⟩, fun h => absurd h (by decide), fun h => absurd h (by decide)⟩
theorem ti_f_12_105 : ti_FOK 12 105 12 9 0 := ⟨RX12, TX12, 43, rfl, by decide, rfl, Or.inl (ti_in 1402 (by decide +kernel) (by decide +kernel)), fun _ => ⟨rfl, by decide +kernel⟩, fun h => absurd h (by decide), fun h => absurd h (by decide)⟩
theorem ti_f_12_108 : ti_FOK 12 108 12 13 3 := ⟨RX12, TX12, 43, rfl, by decide, rfl, Or.inl (ti_in 1406 (by decide +kernel) (by decide +kernel)), fun h => absurd h (by decide), fun h => absurd h (by decide), fun _ => ⟨rfl, tyX12 13, by decide +kernel, fun _ => ⟨rfl, rfl⟩⟩⟩
theorem ti_f_12_111 : ti_FOK 12 111 12 14 0 := ⟨RX12, TX12, 43, rfl, by decide, rfl, Or.inl (ti_in 1407 (by decide +kernel) (by decide +kernel)), fun _ => ⟨rfl, by decide +kernel⟩, fun h => absurd h (by decide), fun h => absurd h (by decide)⟩
theorem ti_f_12_114 : ti_FOK 12 114 12 15 0 := ⟨RX12, TX12, 43, rfl, by decide, rfl, Or.inl (ti_in 1408 (by decide +kernel) (by decide +kernel)), fun _ => ⟨rfl, by decide +kernel⟩, fun h => absurd h (by decide), fun h => absurd h (by decide)⟩
theorem ti_f_12_117 : ti_FOK 12 117 12 16 0 := ⟨RX12, TX12, 43, rfl, by decide, rfl, Or.inl (ti_in 1409 (by decide +kernel) (by decide +kernel)), fun _ => ⟨rfl, by decide +kernel⟩, fun h => absurd h (by decide), fun h => absurd h (by decide)⟩
theorem ti_f_12_120 : ti_FOK 12 120 12 17 0 := ⟨RX12, TX12, 43, rfl, by decide, rfl, Or.inl (ti_in 1410 (by decide +kernel) (by decide +kernel)), fun _ => ⟨rfl, by decide +kernel⟩, fun h => absurd h (by decide), fun h => absurd h (by decide)⟩
theorem ti_f_12_147 : ti_FOK 12 147 12 25 0 := ⟨RX12, TX12, 43, rfl, by decide, rfl, Or.inl (ti_in 1418 (by decide +kernel) (by decide +kernel)), fun _ => ⟨rfl, by decide +kernel⟩, fun h => absurd h (by decide), fun h => absurd h (by decide)⟩
theorem ti_f_12_150 : ti_FOK 12 150 12 39 0 := ⟨RX12, TX12, 43, rfl, by decide, rfl, Or.inl (ti_in 1432 (by decide +kernel) (by decide +kernel)), fun _ => ⟨rfl, by decide +kernel⟩, fun h => absurd h (by decide), fun h => absurd h (by decide)⟩
theorem ti_f_12_191 : ti_FOK 12 191 12 22 1 := ⟨RX12, TX12, 43, rfl, by decide, rfl, Or.inl (ti_in 1415 (by decide +kernel) (by decide +kernel)), fun h => absurd h (by decide), fun _ => ⟨rfl, by decide +kernel⟩, fun h => absurd h (by decide)⟩
theorem ti_f_12_198 : ti_FOK 12 198 12 21 0 := ⟨RX12, TX12, 43, rfl, by decide, rfl, Or.inl (ti_in 1414 (by decide +kernel) (by decide +kernel)), fun _ => ⟨rfl, by decide +kernel⟩, fun h => absurd h (by decide), fun h => absurd h (by decide)⟩
theorem ti_f_12_346 : ti_FOK 12 346 12 33 0 := ⟨RX12, TX12, 43, rfl, by decide, rfl, Or.inl (ti_in 1426 (by decide +kernel) (by decide +kernel)), fun _ => ⟨rfl, by decide +kernel⟩, fun h => absurd h (by decide), fun h => absurd h (by decide)⟩
theorem ti_f_12_355 : ti_FOK 12 355 12 35 0 := ⟨RX12, TX12, 43, rfl, by decide, rfl, Or.inl (ti_in 1428 (by decide +kernel) (by decide +kernel)), fun _ => ⟨rfl, by decide +kernel⟩, fun h => absurd h (by decide), fun h => absurd h (by decide)⟩
theorem ti_f_12_362 : ti_FOK 12 362 12 37 0 := ⟨RX12, TX12, 43, rfl, by decide, rfl, Or.inl (ti_in 1430 (by decide +kernel) (by decide +kernel)), fun _ => ⟨rfl, by decide +kernel⟩, fun h => absurd h (by decide), fun h => absurd h (by decide)⟩
theorem ti_f_12_385 : ti_FOK 12 385 12 38 0 := ⟨RX12, TX12, 43, rfl, by decide, rfl, Or.inl (ti_in 1431 (by decide +kernel) (by decide +kernel)), fun _ => ⟨rfl, by decide +kernel⟩, fun h => absurd h (by decide), fun h => absurd h (by decide)⟩
theorem ti_fok_12 : ∀ e ∈ ti_fr_12, ti_FOK 12 e.1 e.2.1 e.2.2.1 e.2.2.2 := List.forall_mem_cons.mpr ⟨ti_f_12_9, List.forall_mem_cons.mpr ⟨ti_f_12_13, List.forall_mem_cons.mpr ⟨ti_f_12_17, List.forall_mem_cons.mpr ⟨ti_f_12_20, List.forall_mem_cons.mpr ⟨ti_f_12_23, List.forall_mem_cons.mpr ⟨ti_f_12_26, List.forall_mem_cons.mpr ⟨ti_f_12_29, List.forall_mem_cons.mpr ⟨ti_f_12_33, List.forall_mem_cons.mpr ⟨ti_f_12_37, List.forall_mem_cons.mpr ⟨ti_f_12_40, List.forall_mem_cons.mpr ⟨ti_f_12_43, List.forall_mem_cons.mpr ⟨ti_f_12_46, List.forall_mem_cons.mpr ⟨ti_f_12_49, List.forall_mem_cons.mpr ⟨ti_f_12_52, List.forall_mem_cons.mpr ⟨ti_f_12_55, List.forall_mem_cons.mpr ⟨ti_f_12_58, List.forall_mem_cons.mpr ⟨ti_f_12_61, List.forall_mem_cons.mpr ⟨ti_f_12_64, List.forall_mem_cons.mpr ⟨ti_f_12_67, List.forall_mem_cons.mpr ⟨ti_f_12_70, List.forall_mem_cons.mpr ⟨ti_f_12_73, List.forall_mem_cons.mpr ⟨ti_f_12_76, List.forall_mem_cons.mpr ⟨ti_f_12_79, List.forall_mem_cons.mpr ⟨ti_f_12_82, List.forall_mem_cons.mpr ⟨ti_f_12_86, List.forall_mem_cons.mpr ⟨ti_f_12_89, List.forall_mem_cons.mpr ⟨ti_f_12_92, List.forall_mem_cons.mpr ⟨ti_f_12_95, List.forall_mem_cons.mpr ⟨ti_f_12_102, List.forall_mem_cons.mpr ⟨ti_f_12_105, List.forall_mem_cons.mpr ⟨ti_f_12_108, List.forall_mem_cons.mpr ⟨ti_f_12_111, List.forall_mem_cons.mpr ⟨ti_f_12_114, List.forall_mem_cons.mpr ⟨ti_f_12_117, List.forall_mem_cons.mpr ⟨ti_f_12_120, List.forall_mem_cons.mpr ⟨ti_f_12_147, List.forall_mem_cons.mpr ⟨ti_f_12_150, List.forall_mem_cons.mpr ⟨ti_f_12_191, List.forall_mem_cons.mpr ⟨ti_f_12_198, List.forall_mem_cons.mpr ⟨ti_f_12_346, List.forall_mem_cons.mpr ⟨ti_f_12_355, List.forall_mem_cons.mpr ⟨ti_f_12_362, List.forall_mem_cons.mpr ⟨ti_f_12_385, fun _ h => absurd h List.not_mem_nil⟩⟩⟩⟩⟩⟩⟩⟩⟩⟩⟩⟩⟩⟩⟩⟩⟩⟩⟩⟩⟩⟩⟩⟩⟩⟩⟩⟩⟩⟩⟩⟩⟩⟩⟩⟩⟩⟩⟩⟩⟩⟩⟩
set_option maxRecDepth 100000 in
theorem ti_m_12_98 : ti_MOK 12 98 (1, hX12_in, 3, 3, yX12_in) := ⟨ti_in 1538 (by decide +kernel) (by decide +kernel), ti_in 99 (by decide +kernel) (by decide +kernel), by decide, rfl, ⟨by decide +kernel, by decide +kernel⟩, by decide, Or.inr (Or.inl ⟨rfl, ti_in 1536 (by decide +kernel) (by decide +kernel), ti_in 1537 (by decide +kernel) (by decide +kernel), by decide +kernel⟩)⟩
set_option maxRecDepth 100000 in
theorem ti_m_12_123 : ti_MOK 12 123 (0, hX12_begin, 4, 4, yX12_begin) := ⟨ti_in 1550 (by decide +kernel) (by decide +kernel), ti_in 99 (by decide +kernel) (by decide +kernel), by decide, rfl, ⟨by decide +kernel, by decide +kernel⟩, by decide, Or.inl ⟨rfl, ti_in 1547 (by decide +kernel) (by decide +kernel), ti_in 1549 (by decide +kernel) (by decide +kernel), ti_in 29 (by decide +kernel) (by decide +kernel), ⟨TX12, 43, rfl⟩, 3, rfl, by decide +kernel⟩⟩
set_option maxRecDepth 100000 in
theorem ti_m_12_127 : ti_MOK 12 127 (0, hX12_fine, 1, 1, yX12_fine) := ⟨ti_in 1554 (by decide +kernel) (by decide +kernel), ti_in 99 (by decide +kernel) (by decide +kernel), by decide, rfl, ⟨by decide +kernel, by decide +kernel⟩, by decide, Or.inl ⟨rfl, ti_in 1551 (by decide +kernel) (by decide +kernel), ti_in 1553 (by decide +kernel) (by decide +kernel), ti_in 30 (by decide +kernel) (by decide +kernel), ⟨TX12, 43, rfl⟩, 0, rfl, by decide +kernel⟩⟩
set_option maxRecDepth 100000 in
theorem ti_m_12_131 : ti_MOK 12 131 (0, hX12_here, 1, 1, yX12_here) := ⟨ti_in 1558 (by decide +kernel) (by decide +kernel), ti_in 99 (by decide +kernel) (by decide +kernel), by decide, rfl, ⟨by decide +kernel, by decide +kernel⟩, by decide, Or.inl ⟨rfl, ti_in 1555 (by decide +kernel) (by decide +kernel), ti_in 1557 (by decide +kernel) (by decide +kernel), ti_in 31 (by decide +kernel) (by decide +kernel), ⟨TX12, 43, rfl⟩, 0, rfl, by decide +kernel⟩⟩
set_option maxRecDepth 100000 in
theorem ti_m_12_135 : ti_MOK 12 135 (0, hX12_passes, 2, 2, yX12_passes) := ⟨ti_in 1594 (by decide +kernel) (by decide +kernel), ti_in 99 (by decide +kernel) (by decide +kernel), by decide, rfl, ⟨by decide +kernel, by decide +kernel⟩, by decide, Or.inl ⟨rfl, ti_in 1591 (by decide +kernel) (by decide +kernel), ti_in 1593 (by decide +kernel) (by decide +kernel), ti_in 39 (by decide +kernel) (by decide +kernel), ⟨TX12, 43, rfl⟩, 1, rfl, by decide +kernel⟩⟩
set_option maxRecDepth 100000 in
theorem ti_m_12_139 : ti_MOK 12 139 (0, hX12_fault, 2, 2, yX12_fault) := ⟨ti_in 1566 (by decide +kernel) (by decide +kernel), ti_in 99 (by decide +kernel) (by decide +kernel), by decide, rfl, ⟨by decide +kernel, by decide +kernel⟩, by decide, Or.inl ⟨rfl, ti_in 1563 (by decide +kernel) (by decide +kernel), ti_in 1565 (by decide +kernel) (by decide +kernel), ti_in 33 (by decide +kernel) (by decide +kernel), ⟨TX12, 43, rfl⟩, 1, rfl, by decide +kernel⟩⟩
set_option maxRecDepth 100000 in
theorem ti_m_12_143 : ti_MOK 12 143 (0, hX12_oneOf, 3, 3, yX12_oneOf) := ⟨ti_in 1562 (by decide +kernel) (by decide +kernel), ti_in 99 (by decide +kernel) (by decide +kernel), by decide, rfl, ⟨by decide +kernel, by decide +kernel⟩, by decide, Or.inl ⟨rfl, ti_in 1559 (by decide +kernel) (by decide +kernel), ti_in 1561 (by decide +kernel) (by decide +kernel), ti_in 32 (by decide +kernel) (by decide +kernel), ⟨TX12, 43, rfl⟩, 2, rfl, by decide +kernel⟩⟩
set_option maxRecDepth 100000 in
theorem ti_m_12_153 : ti_MOK 12 153 (0, hX12_beginText, 2, 2, yX12_beginText) := ⟨ti_in 1546 (by decide +kernel) (by decide +kernel), ti_in 99 (by decide +kernel) (by decide +kernel), by decide, rfl, ⟨by decide +kernel, by decide +kernel⟩, by decide, Or.inl ⟨rfl, ti_in 1543 (by decide +kernel) (by decide +kernel), ti_in 1545 (by decide +kernel) (by decide +kernel), ti_in 28 (by decide +kernel) (by decide +kernel), ⟨TX12, 43, rfl⟩, 1, rfl, by decide +kernel⟩⟩
set_option maxRecDepth 100000 in
theorem ti_m_12_156 : ti_MOK 12 156 (0, hX12_wasRight, 1, 1, yX12_wasRight) := ⟨ti_in 1570 (by decide +kernel) (by decide +kernel), ti_in 99 (by decide +kernel) (by decide +kernel), by decide, rfl, ⟨by decide +kernel, by decide +kernel⟩, by decide, Or.inl ⟨rfl, ti_in 1567 (by decide +kernel) (by decide +kernel), ti_in 1569 (by decide +kernel) (by decide +kernel), ti_in 34 (by decide +kernel) (by decide +kernel), ⟨TX12, 43, rfl⟩, 0, rfl, by decide +kernel⟩⟩
set_option maxRecDepth 100000 in
theorem ti_m_12_159 : ti_MOK 12 159 (0, hX12_told, 1, 1, yX12_told) := ⟨ti_in 1574 (by decide +kernel) (by decide +kernel), ti_in 99 (by decide +kernel) (by decide +kernel), by decide, rfl, ⟨by decide +kernel, by decide +kernel⟩, by decide, Or.inl ⟨rfl, ti_in 1571 (by decide +kernel) (by decide +kernel), ti_in 1573 (by decide +kernel) (by decide +kernel), ti_in 35 (by decide +kernel) (by decide +kernel), ⟨TX12, 43, rfl⟩, 0, rfl, by decide +kernel⟩⟩
set_option maxRecDepth 100000 in
theorem ti_m_12_162 : ti_MOK 12 162 (0, hX12_number, 4, 2, yX12_number) := ⟨ti_in 1586 (by decide +kernel) (by decide +kernel), ti_in 99 (by decide +kernel) (by decide +kernel), by decide, rfl, ⟨by decide +kernel, by decide +kernel⟩, by decide, Or.inl ⟨rfl, ti_in 1583 (by decide +kernel) (by decide +kernel), ti_in 1585 (by decide +kernel) (by decide +kernel), ti_in 37 (by decide +kernel) (by decide +kernel), ⟨TX12, 43, rfl⟩, 1, rfl, by decide +kernel⟩⟩
set_option maxRecDepth 100000 in
theorem ti_m_12_166 : ti_MOK 12 166 (0, hX12_bounded, 3, 2, yX12_bounded) := ⟨ti_in 1582 (by decide +kernel) (by decide +kernel), ti_in 99 (by decide +kernel) (by decide +kernel), by decide, rfl, ⟨by decide +kernel, by decide +kernel⟩, by decide, Or.inl ⟨rfl, ti_in 1579 (by decide +kernel) (by decide +kernel), ti_in 1581 (by decide +kernel) (by decide +kernel), ti_in 36 (by decide +kernel) (by decide +kernel), ⟨TX12, 43, rfl⟩, 1, rfl, by decide +kernel⟩⟩
set_option maxRecDepth 100000 in
theorem ti_m_12_169 : ti_MOK 12 169 (0, hX12_need, 2, 2, yX12_need) := ⟨ti_in 1590 (by decide +kernel) (by decide +kernel), ti_in 99 (by decide +kernel) (by decide +kernel), by decide, rfl, ⟨by decide +kernel, by decide +kernel⟩, by decide, Or.inl ⟨rfl, ti_in 1587 (by decide +kernel) (by decide +kernel), ti_in 1589 (by decide +kernel) (by decide +kernel), ti_in 38 (by decide +kernel) (by decide +kernel), ⟨TX12, 43, rfl⟩, 1, rfl, by decide +kernel⟩⟩
set_option maxRecDepth 100000 in
theorem ti_m_12_173 : ti_MOK 12 173 (0, hX12_readSaying, 4, 2, yX12_readSaying) := ⟨ti_in 1602 (by decide +kernel) (by decide +kernel), ti_in 99 (by decide +kernel) (by decide +kernel), by decide, rfl, ⟨by decide +kernel, by decide +kernel⟩, by decide, Or.inl ⟨rfl, ti_in 1599 (by decide +kernel) (by decide +kernel), ti_in 1601 (by decide +kernel) (by decide +kernel), ti_in 40 (by decide +kernel) (by decide +kernel), ⟨TX12, 43, rfl⟩, 1, rfl, by decide +kernel⟩⟩
set_option maxRecDepth 100000 in
theorem ti_m_12_176 : ti_MOK 12 176 (0, hX12_sum, 5, 2, yX12_sum) := ⟨ti_in 1618 (by decide +kernel) (by decide +kernel), ti_in 99 (by decide +kernel) (by decide +kernel), by decide, rfl, ⟨by decide +kernel, by decide +kernel⟩, by decide, Or.inl ⟨rfl, ti_in 1615 (by decide +kernel) (by decide +kernel), ti_in 1617 (by decide +kernel) (by decide +kernel), ti_in 43 (by decide +kernel) (by decide +kernel), ⟨TX12, 43, rfl⟩, 1, rfl, by decide +kernel⟩⟩
set_option maxRecDepth 100000 in
theorem ti_m_12_179 : ti_MOK 12 179 (0, hX12_product, 5, 2, yX12_product) := ⟨ti_in 1622 (by decide +kernel) (by decide +kernel), ti_in 99 (by decide +kernel) (by decide +kernel), by decide, rfl, ⟨by decide +kernel, by decide +kernel⟩, by decide, Or.inl ⟨rfl, ti_in 1619 (by decide +kernel) (by decide +kernel), ti_in 1621 (by decide +kernel) (by decide +kernel), ti_in 44 (by decide +kernel) (by decide +kernel), ⟨TX12, 43, rfl⟩, 1, rfl, by decide +kernel⟩⟩
set_option maxRecDepth 100000 in
theorem ti_m_12_182 : ti_MOK 12 182 (0, hX12_thing, 4, 2, yX12_thing) := ⟨ti_in 1626 (by decide +kernel) (by decide +kernel), ti_in 99 (by decide +kernel) (by decide +kernel), by decide, rfl, ⟨by decide +kernel, by decide +kernel⟩, by decide, Or.inl ⟨rfl, ti_in 1623 (by decide +kernel) (by decide +kernel), ti_in 1625 (by decide +kernel) (by decide +kernel), ti_in 45 (by decide +kernel) (by decide +kernel), ⟨TX12, 43, rfl⟩, 1, rfl, by decide +kernel⟩⟩
set_option maxRecDepth 100000 in
theorem ti_m_12_185 : ti_MOK 12 185 (0, hX12_held, 3, 2, yX12_held) := ⟨ti_in 1614 (by decide +kernel) (by decide +kernel), ti_in 99 (by decide +kernel) (by decide +kernel), by decide, rfl, ⟨by decide +kernel, by decide +kernel⟩, by decide, Or.inl ⟨rfl, ti_in 1611 (by decide +kernel) (by decide +kernel), ti_in 1613 (by decide +kernel) (by decide +kernel), ti_in 42 (by decide +kernel) (by decide +kernel), ⟨TX12, 43, rfl⟩, 1, rfl, by decide +kernel⟩⟩
set_option maxRecDepth 100000 in
theorem ti_m_12_188 : ti_MOK 12 188 (1, hX12_letterOf, 1, 1, yX12_letterOf) := ⟨ti_in 1629 (by decide +kernel) (by decide +kernel), ti_in 99 (by decide +kernel) (by decide +kernel), by decide, rfl, ⟨by decide +kernel, by decide +kernel⟩, by decide, Or.inr (Or.inl ⟨rfl, ti_in 1627 (by decide +kernel) (by decide +kernel), ti_in 1628 (by decide +kernel) (by decide +kernel), by decide +kernel⟩)⟩
set_option maxRecDepth 100000 in
theorem ti_m_12_195 : ti_MOK 12 195 (0, hX12_readRule, 1, 1, yX12_readRule) := ⟨ti_in 1610 (by decide +kernel) (by decide +kernel), ti_in 99 (by decide +kernel) (by decide +kernel), by decide, rfl, ⟨by decide +kernel, by decide +kernel⟩, by decide, Or.inl ⟨rfl, ti_in 1607 (by decide +kernel) (by decide +kernel), ti_in 1609 (by decide +kernel) (by decide +kernel), ti_in 41 (by decide +kernel) (by decide +kernel), ⟨TX12, 43, rfl⟩, 0, rfl, by decide +kernel⟩⟩
set_option maxRecDepth 100000 in
theorem ti_m_12_201 : ti_MOK 12 201 (1, hX12_has, 2, 2, yX12_has) := ⟨ti_in 1656 (by decide +kernel) (by decide +kernel), ti_in 99 (by decide +kernel) (by decide +kernel), by decide, rfl, ⟨by decide +kernel, by decide +kernel⟩, by decide, Or.inr (Or.inl ⟨rfl, ti_in 1654 (by decide +kernel) (by decide +kernel), ti_in 1655 (by decide +kernel) (by decide +kernel), by decide +kernel⟩)⟩
set_option maxRecDepth 100000 in
theorem ti_m_12_211 : ti_MOK 12 211 (0, hX12_tallest, 4, 2, yX12_tallest) := ⟨ti_in 1653 (by decide +kernel) (by decide +kernel), ti_in 99 (by decide +kernel) (by decide +kernel), by decide, rfl, ⟨by decide +kernel, by decide +kernel⟩, by decide, Or.inl ⟨rfl, ti_in 1650 (by decide +kernel) (by decide +kernel), ti_in 1652 (by decide +kernel) (by decide +kernel), ti_in 50 (by decide +kernel) (by decide +kernel), ⟨TX12, 43, rfl⟩, 1, rfl, by decide +kernel⟩⟩
set_option maxRecDepth 100000 in
theorem ti_m_12_214 : ti_MOK 12 214 (1, hJ6_bitCount_0f7a4, 1, 1, yJ6_bitCount_0f7a4) := ⟨ti_in 726 (by decide +kernel) (by decide +kernel), ti_in 111 (by decide +kernel) (by decide +kernel), by decide, rfl, ⟨by decide +kernel, by decide +kernel⟩, by decide, Or.inr (Or.inl ⟨rfl, ti_in 1658 (by decide +kernel) (by decide +kernel), ti_in 725 (by decide +kernel) (by decide +kernel), by decide +kernel⟩)⟩
set_option maxRecDepth 100000 in
theorem ti_m_12_219 : ti_MOK 12 219 (0, hX12_steepOf, 2, 2, yX12_steepOf) := ⟨ti_in 1662 (by decide +kernel) (by decide +kernel), ti_in 99 (by decide +kernel) (by decide +kernel), by decide, rfl, ⟨by decide +kernel, by decide +kernel⟩, by decide, Or.inl ⟨rfl, ti_in 1659 (by decide +kernel) (by decide +kernel), ti_in 1661 (by decide +kernel) (by decide +kernel), ti_in 51 (by decide +kernel) (by decide +kernel), ⟨TX12, 43, rfl⟩, 1, rfl, by decide +kernel⟩⟩
set_option maxRecDepth 100000 in
theorem ti_m_12_226 : ti_MOK 12 226 (0, hX12_bearsOf, 6, 4, yX12_bearsOf) := ⟨ti_in 1649 (by decide +kernel) (by decide +kernel), ti_in 99 (by decide +kernel) (by decide +kernel), by decide, rfl, ⟨by decide +kernel, by decide +kernel⟩, by decide, Or.inl ⟨rfl, ti_in 1646 (by decide +kernel) (by decide +kernel), ti_in 1648 (by decide +kernel) (by decide +kernel), ti_in 49 (by decide +kernel) (by decide +kernel), ⟨TX12, 43, rfl⟩, 3, rfl, by decide +kernel⟩⟩
set_option maxRecDepth 100000 in
theorem ti_m_12_230 : ti_MOK 12 230 (0, hX12_forceOf, 5, 3, yX12_forceOf) := ⟨ti_in 1691 (by decide +kernel) (by decide +kernel), ti_in 99 (by decide +kernel) (by decide +kernel), by decide, rfl, ⟨by decide +kernel, by decide +kernel⟩, by decide, Or.inl ⟨rfl, ti_in 1688 (by decide +kernel) (by decide +kernel), ti_in 1690 (by decide +kernel) (by decide +kernel), ti_in 56 (by decide +kernel) (by decide +kernel), ⟨TX12, 43, rfl⟩, 2, rfl, by decide +kernel⟩⟩
set_option maxRecDepth 100000 in
theorem ti_m_12_234 : ti_MOK 12 234 (0, hX12_needed, 2, 2, yX12_needed) := ⟨ti_in 1683 (by decide +kernel) (by decide +kernel), ti_in 99 (by decide +kernel) (by decide +kernel), by decide, rfl, ⟨by decide +kernel, by decide +kernel⟩, by decide, Or.inl ⟨rfl, ti_in 1680 (by decide +kernel) (by decide +kernel), ti_in 1682 (by decide +kernel) (by decide +kernel), ti_in 54 (by decide +kernel) (by decide +kernel), ⟨TX12, 43, rfl⟩, 1, rfl, by decide +kernel⟩⟩
set_option maxRecDepth 100000 in
theorem ti_m_12_237 : ti_MOK 12 237 (0, hX12_isMan, 2, 2, yX12_isMan) := ⟨ti_in 1637 (by decide +kernel) (by decide +kernel), ti_in 99 (by decide +kernel) (by decide +kernel), by decide, rfl, ⟨by decide +kernel, by decide +kernel⟩, by decide, Or.inl ⟨rfl, ti_in 1634 (by decide +kernel) (by decide +kernel), ti_in 1636 (by decide +kernel) (by decide +kernel), ti_in 46 (by decide +kernel) (by decide +kernel), ⟨TX12, 43, rfl⟩, 1, rfl, by decide +kernel⟩⟩
set_option maxRecDepth 100000 in
theorem ti_m_12_241 : ti_MOK 12 241 (0, hX12_lost, 1, 1, yX12_lost) := ⟨ti_in 1641 (by decide +kernel) (by decide +kernel), ti_in 99 (by decide +kernel) (by decide +kernel), by decide, rfl, ⟨by decide +kernel, by decide +kernel⟩, by decide, Or.inl ⟨rfl, ti_in 1638 (by decide +kernel) (by decide +kernel), ti_in 1640 (by decide +kernel) (by decide +kernel), ti_in 47 (by decide +kernel) (by decide +kernel), ⟨TX12, 43, rfl⟩, 0, rfl, by decide +kernel⟩⟩
set_option maxRecDepth 100000 in
theorem ti_m_12_244 : ti_MOK 12 244 (0, hX12_carry, 4, 2, yX12_carry) := ⟨ti_in 1645 (by decide +kernel) (by decide +kernel), ti_in 99 (by decide +kernel) (by decide +kernel), by decide, rfl, ⟨by decide +kernel, by decide +kernel⟩, by decide, Or.inl ⟨rfl, ti_in 1642 (by decide +kernel) (by decide +kernel), ti_in 1644 (by decide +kernel) (by decide +kernel), ti_in 48 (by decide +kernel) (by decide +kernel), ⟨TX12, 43, rfl⟩, 1, rfl, by decide +kernel⟩⟩
set_option maxRecDepth 100000 in
theorem ti_m_12_247 : ti_MOK 12 247 (0, hX12_isSaying, 2, 2, yX12_isSaying) := ⟨ti_in 1671 (by decide +kernel) (by decide +kernel), ti_in 99 (by decide +kernel) (by decide +kernel), by decide, rfl, ⟨by decide +kernel, by decide +kernel⟩, by decide, Or.inl ⟨rfl, ti_in 1668 (by decide +kernel) (by decide +kernel), ti_in 1670 (by decide +kernel) (by decide +kernel), ti_in 52 (by decide +kernel) (by decide +kernel), ⟨TX12, 43, rfl⟩, 1, rfl, by decide +kernel⟩⟩
set_option maxRecDepth 100000 in
theorem ti_m_12_250 : ti_MOK 12 250 (0, hX12_doesKnow, 3, 3, yX12_doesKnow) := ⟨ti_in 1675 (by decide +kernel) (by decide +kernel), ti_in 99 (by decide +kernel) (by decide +kernel), by decide, rfl, ⟨by decide +kernel, by decide +kernel⟩, by decide, Or.inl ⟨rfl, ti_in 1672 (by decide +kernel) (by decide +kernel), ti_in 1674 (by decide +kernel) (by decide +kernel), ti_in 53 (by decide +kernel) (by decide +kernel), ⟨TX12, 43, rfl⟩, 2, rfl, by decide +kernel⟩⟩
set_option maxRecDepth 100000 in
theorem ti_m_12_253 : ti_MOK 12 253 (0, hX12_tell, 3, 2, yX12_tell) := ⟨ti_in 1687 (by decide +kernel) (by decide +kernel), ti_in 99 (by decide +kernel) (by decide +kernel), by decide, rfl, ⟨by decide +kernel, by decide +kernel⟩, by decide, Or.inl ⟨rfl, ti_in 1684 (by decide +kernel) (by decide +kernel), ti_in 1686 (by decide +kernel) (by decide +kernel), ti_in 55 (by decide +kernel) (by decide +kernel), ⟨TX12, 43, rfl⟩, 1, rfl, by decide +kernel⟩⟩
set_option maxRecDepth 100000 in
theorem ti_m_12_257 : ti_MOK 12 257 (1, hX12_lay, 4, 3, yX12_lay) := ⟨ti_in 1718 (by decide +kernel) (by decide +kernel), ti_in 99 (by decide +kernel) (by decide +kernel), by decide, rfl, ⟨by decide +kernel, by decide +kernel⟩, by decide, Or.inr (Or.inl ⟨rfl, ti_in 1716 (by decide +kernel) (by decide +kernel), ti_in 1717 (by decide +kernel) (by decide +kernel), by decide +kernel⟩)⟩
set_option maxRecDepth 100000 in
theorem ti_m_12_261 : ti_MOK 12 261 (0, hX12_isOnHill, 2, 2, yX12_isOnHill) := ⟨ti_in 1711 (by decide +kernel) (by decide +kernel), ti_in 99 (by decide +kernel) (by decide +kernel), by decide, rfl, ⟨by decide +kernel, by decide +kernel⟩, by decide, Or.inl ⟨rfl, ti_in 1708 (by decide +kernel) (by decide +kernel), ti_in 1710 (by decide +kernel) (by decide +kernel), ti_in 58 (by decide +kernel) (by decide +kernel), ⟨TX12, 43, rfl⟩, 1, rfl, by decide +kernel⟩⟩
set_option maxRecDepth 100000 in
theorem ti_m_12_265 : ti_MOK 12 265 (0, hX12_isFirm, 3, 3, yX12_isFirm) := ⟨ti_in 1726 (by decide +kernel) (by decide +kernel), ti_in 99 (by decide +kernel) (by decide +kernel), by decide, rfl, ⟨by decide +kernel, by decide +kernel⟩, by decide, Or.inl ⟨rfl, ti_in 1723 (by decide +kernel) (by decide +kernel), ti_in 1725 (by decide +kernel) (by decide +kernel), ti_in 61 (by decide +kernel) (by decide +kernel), ⟨TX12, 43, rfl⟩, 2, rfl, by decide +kernel⟩⟩
set_option maxRecDepth 100000 in
theorem ti_m_12_269 : ti_MOK 12 269 (0, hX12_refusesStep, 2, 2, yX12_refusesStep) := ⟨ti_in 1707 (by decide +kernel) (by decide +kernel), ti_in 99 (by decide +kernel) (by decide +kernel), by decide, rfl, ⟨by decide +kernel, by decide +kernel⟩, by decide, Or.inl ⟨rfl, ti_in 1704 (by decide +kernel) (by decide +kernel), ti_in 1706 (by decide +kernel) (by decide +kernel), ti_in 57 (by decide +kernel) (by decide +kernel), ⟨TX12, 43, rfl⟩, 1, rfl, by decide +kernel⟩⟩
set_option maxRecDepth 100000 in
theorem ti_m_12_272 : ti_MOK 12 272 (0, hX12_remember, 3, 2, yX12_remember) := ⟨ti_in 1715 (by decide +kernel) (by decide +kernel), ti_in 99 (by decide +kernel) (by decide +kernel), by decide, rfl, ⟨by decide +kernel, by decide +kernel⟩, by decide, Or.inl ⟨rfl, ti_in 1712 (by decide +kernel) (by decide +kernel), ti_in 1714 (by decide +kernel) (by decide +kernel), ti_in 59 (by decide +kernel) (by decide +kernel), ⟨TX12, 43, rfl⟩, 1, rfl, by decide +kernel⟩⟩
set_option maxRecDepth 100000 in
theorem ti_m_12_276 : ti_MOK 12 276 (0, hX12_goStep, 4, 2, yX12_goStep) := ⟨ti_in 1722 (by decide +kernel) (by decide +kernel), ti_in 99 (by decide +kernel) (by decide +kernel), by decide, rfl, ⟨by decide +kernel, by decide +kernel⟩, by decide, Or.inl ⟨rfl, ti_in 1719 (by decide +kernel) (by decide +kernel), ti_in 1721 (by decide +kernel) (by decide +kernel), ti_in 60 (by decide +kernel) (by decide +kernel), ⟨TX12, 43, rfl⟩, 1, rfl, by decide +kernel⟩⟩
set_option maxRecDepth 100000 in
theorem ti_m_12_279 : ti_MOK 12 279 (0, hX12_refusesTake, 3, 3, yX12_refusesTake) := ⟨ti_in 1734 (by decide +kernel) (by decide +kernel), ti_in 99 (by decide +kernel) (by decide +kernel), by decide, rfl, ⟨by decide +kernel, by decide +kernel⟩, by decide, Or.inl ⟨rfl, ti_in 1731 (by decide +kernel) (by decide +kernel), ti_in 1733 (by decide +kernel) (by decide +kernel), ti_in 62 (by decide +kernel) (by decide +kernel), ⟨TX12, 43, rfl⟩, 2, rfl, by decide +kernel⟩⟩
set_option maxRecDepth 100000 in
theorem ti_m_12_282 : ti_MOK 12 282 (0, hX12_refusesLeave, 2, 2, yX12_refusesLeave) := ⟨ti_in 1742 (by decide +kernel) (by decide +kernel), ti_in 99 (by decide +kernel) (by decide +kernel), by decide, rfl, ⟨by decide +kernel, by decide +kernel⟩, by decide, Or.inl ⟨rfl, ti_in 1739 (by decide +kernel) (by decide +kernel), ti_in 1741 (by decide +kernel) (by decide +kernel), ti_in 63 (by decide +kernel) (by decide +kernel), ⟨TX12, 43, rfl⟩, 1, rfl, by decide +kernel⟩⟩
set_option maxRecDepth 100000 in
theorem ti_m_12_285 : ti_MOK 12 285 (1, hX12_isSeventh, 1, 1, yX12_isSeventh) := ⟨ti_in 1753 (by decide +kernel) (by decide +kernel), ti_in 99 (by decide +kernel) (by decide +kernel), by decide, rfl, ⟨by decide +kernel, by decide +kernel⟩, by decide, Or.inr (Or.inl ⟨rfl, ti_in 1751 (by decide +kernel) (by decide +kernel), ti_in 1752 (by decide +kernel) (by decide +kernel), by decide +kernel⟩)⟩
set_option maxRecDepth 100000 in
theorem ti_m_12_288 : ti_MOK 12 288 (0, hX12_refusesSeventh, 2, 2, yX12_refusesSeventh) := ⟨ti_in 1750 (by decide +kernel) (by decide +kernel), ti_in 99 (by decide +kernel) (by decide +kernel), by decide, rfl, ⟨by decide +kernel, by decide +kernel⟩, by decide, Or.inl ⟨rfl, ti_in 1747 (by decide +kernel) (by decide +kernel), ti_in 1749 (by decide +kernel) (by decide +kernel), ti_in 64 (by decide +kernel) (by decide +kernel), ⟨TX12, 43, rfl⟩, 1, rfl, by decide +kernel⟩⟩
set_option maxRecDepth 100000 in
theorem ti_m_12_291 : ti_MOK 12 291 (0, hX12_isTrue, 2, 2, yX12_isTrue) := ⟨ti_in 1773 (by decide +kernel) (by decide +kernel), ti_in 99 (by decide +kernel) (by decide +kernel), by decide, rfl, ⟨by decide +kernel, by decide +kernel⟩, by decide, Or.inl ⟨rfl, ti_in 1770 (by decide +kernel) (by decide +kernel), ti_in 1772 (by decide +kernel) (by decide +kernel), ti_in 68 (by decide +kernel) (by decide +kernel), ⟨TX12, 43, rfl⟩, 1, rfl, by decide +kernel⟩⟩
set_option maxRecDepth 100000 in
theorem ti_m_12_294 : ti_MOK 12 294 (0, hX12_heavy, 2, 2, yX12_heavy) := ⟨ti_in 1777 (by decide +kernel) (by decide +kernel), ti_in 99 (by decide +kernel) (by decide +kernel), by decide, rfl, ⟨by decide +kernel, by decide +kernel⟩, by decide, Or.inl ⟨rfl, ti_in 1774 (by decide +kernel) (by decide +kernel), ti_in 1776 (by decide +kernel) (by decide +kernel), ti_in 69 (by decide +kernel) (by decide +kernel), ⟨TX12, 43, rfl⟩, 1, rfl, by decide +kernel⟩⟩
set_option maxRecDepth 100000 in
theorem ti_m_12_297 : ti_MOK 12 297 (0, hX12_loadBy, 3, 3, yX12_loadBy) := ⟨ti_in 1769 (by decide +kernel) (by decide +kernel), ti_in 99 (by decide +kernel) (by decide +kernel), by decide, rfl, ⟨by decide +kernel, by decide +kernel⟩, by decide, Or.inl ⟨rfl, ti_in 1766 (by decide +kernel) (by decide +kernel), ti_in 1768 (by decide +kernel) (by decide +kernel), ti_in 67 (by decide +kernel) (by decide +kernel), ⟨TX12, 43, rfl⟩, 2, rfl, by decide +kernel⟩⟩
set_option maxRecDepth 100000 in
theorem ti_m_12_300 : ti_MOK 12 300 (0, hX12_refusesSay, 3, 3, yX12_refusesSay) := ⟨ti_in 1761 (by decide +kernel) (by decide +kernel), ti_in 99 (by decide +kernel) (by decide +kernel), by decide, rfl, ⟨by decide +kernel, by decide +kernel⟩, by decide, Or.inl ⟨rfl, ti_in 1758 (by decide +kernel) (by decide +kernel), ti_in 1760 (by decide +kernel) (by decide +kernel), ti_in 65 (by decide +kernel) (by decide +kernel), ⟨TX12, 43, rfl⟩, 2, rfl, by decide +kernel⟩⟩
set_option maxRecDepth 100000 in
theorem ti_m_12_303 : ti_MOK 12 303 (0, hX12_goSay, 3, 3, yX12_goSay) := ⟨ti_in 1765 (by decide +kernel) (by decide +kernel), ti_in 99 (by decide +kernel) (by decide +kernel), by decide, rfl, ⟨by decide +kernel, by decide +kernel⟩, by decide, Or.inl ⟨rfl, ti_in 1762 (by decide +kernel) (by decide +kernel), ti_in 1764 (by decide +kernel) (by decide +kernel), ti_in 66 (by decide +kernel) (by decide +kernel), ⟨TX12, 43, rfl⟩, 2, rfl, by decide +kernel⟩⟩
set_option maxRecDepth 100000 in
theorem ti_m_12_307 : ti_MOK 12 307 (0, hX12_readAct, 3, 2, yX12_readAct) := ⟨ti_in 1785 (by decide +kernel) (by decide +kernel), ti_in 99 (by decide +kernel) (by decide +kernel), by decide, rfl, ⟨by decide +kernel, by decide +kernel⟩, by decide, Or.inl ⟨rfl, ti_in 1782 (by decide +kernel) (by decide +kernel), ti_in 1784 (by decide +kernel) (by decide +kernel), ti_in 70 (by decide +kernel) (by decide +kernel), ⟨TX12, 43, rfl⟩, 1, rfl, by decide +kernel⟩⟩
set_option maxRecDepth 100000 in
theorem ti_m_12_310 : ti_MOK 12 310 (0, hX12_act, 3, 3, yX12_act) := ⟨ti_in 1789 (by decide +kernel) (by decide +kernel), ti_in 99 (by decide +kernel) (by decide +kernel), by decide, rfl, ⟨by decide +kernel, by decide +kernel⟩, by decide, Or.inl ⟨rfl, ti_in 1786 (by decide +kernel) (by decide +kernel), ti_in 1788 (by decide +kernel) (by decide +kernel), ti_in 71 (by decide +kernel) (by decide +kernel), ⟨TX12, 43, rfl⟩, 2, rfl, by decide +kernel⟩⟩
set_option maxRecDepth 100000 in
theorem ti_m_12_313 : ti_MOK 12 313 (0, hX12_firstOf, 1, 1, yX12_firstOf) := ⟨ti_in 1805 (by decide +kernel) (by decide +kernel), ti_in 99 (by decide +kernel) (by decide +kernel), by decide, rfl, ⟨by decide +kernel, by decide +kernel⟩, by decide, Or.inl ⟨rfl, ti_in 1802 (by decide +kernel) (by decide +kernel), ti_in 1804 (by decide +kernel) (by decide +kernel), ti_in 72 (by decide +kernel) (by decide +kernel), ⟨TX12, 43, rfl⟩, 0, rfl, by decide +kernel⟩⟩
set_option maxRecDepth 100000 in
theorem ti_m_12_316 : ti_MOK 12 316 (0, hX12_goHush, 9, 7, yX12_goHush) := ⟨ti_in 1829 (by decide +kernel) (by decide +kernel), ti_in 99 (by decide +kernel) (by decide +kernel), by decide, rfl, ⟨by decide +kernel, by decide +kernel⟩, by decide, Or.inl ⟨rfl, ti_in 1826 (by decide +kernel) (by decide +kernel), ti_in 1828 (by decide +kernel) (by decide +kernel), ti_in 76 (by decide +kernel) (by decide +kernel), ⟨TX12, 43, rfl⟩, 6, rfl, by decide +kernel⟩⟩
set_option maxRecDepth 100000 in
theorem ti_m_12_320 : ti_MOK 12 320 (0, hX12_layRoom, 1, 1, yX12_layRoom) := ⟨ti_in 1821 (by decide +kernel) (by decide +kernel), ti_in 99 (by decide +kernel) (by decide +kernel), by decide, rfl, ⟨by decide +kernel, by decide +kernel⟩, by decide, Or.inl ⟨rfl, ti_in 1818 (by decide +kernel) (by decide +kernel), ti_in 1820 (by decide +kernel) (by decide +kernel), ti_in 74 (by decide +kernel) (by decide +kernel), ⟨TX12, 43, rfl⟩, 0, rfl, by decide +kernel⟩⟩
set_option maxRecDepth 100000 in
theorem ti_m_12_323 : ti_MOK 12 323 (0, hX12_saidBits, 3, 1, yX12_saidBits) := ⟨ti_in 1825 (by decide +kernel) (by decide +kernel), ti_in 99 (by decide +kernel) (by decide +kernel), by decide, rfl, ⟨by decide +kernel, by decide +kernel⟩, by decide, Or.inl ⟨rfl, ti_in 1822 (by decide +kernel) (by decide +kernel), ti_in 1824 (by decide +kernel) (by decide +kernel), ti_in 75 (by decide +kernel) (by decide +kernel), ⟨TX12, 43, rfl⟩, 0, rfl, by decide +kernel⟩⟩
set_option maxRecDepth 100000 in
theorem ti_m_12_326 : ti_MOK 12 326 (0, hX12_hushOf, 3, 2, yX12_hushOf) := ⟨ti_in 1817 (by decide +kernel) (by decide +kernel), ti_in 99 (by decide +kernel) (by decide +kernel), by decide, rfl, ⟨by decide +kernel, by decide +kernel⟩, by decide, Or.inl ⟨rfl, ti_in 1814 (by decide +kernel) (by decide +kernel), ti_in 1816 (by decide +kernel) (by decide +kernel), ti_in 73 (by decide +kernel) (by decide +kernel), ⟨TX12, 43, rfl⟩, 1, rfl, by decide +kernel⟩⟩
set_option maxRecDepth 100000 in
theorem ti_m_12_333 : ti_MOK 12 333 (0, hX12_areSayings, 2, 2, yX12_areSayings) := ⟨ti_in 1871 (by decide +kernel) (by decide +kernel), ti_in 99 (by decide +kernel) (by decide +kernel), by decide, rfl, ⟨by decide +kernel, by decide +kernel⟩, by decide, Or.inl ⟨rfl, ti_in 1868 (by decide +kernel) (by decide +kernel), ti_in 1870 (by decide +kernel) (by decide +kernel), ti_in 77 (by decide +kernel) (by decide +kernel), ⟨TX12, 43, rfl⟩, 1, rfl, by decide +kernel⟩⟩
set_option maxRecDepth 100000 in
theorem ti_m_12_336 : ti_MOK 12 336 (0, hX12_doCover, 4, 3, yX12_doCover) := ⟨ti_in 1875 (by decide +kernel) (by decide +kernel), ti_in 99 (by decide +kernel) (by decide +kernel), by decide, rfl, ⟨by decide +kernel, by decide +kernel⟩, by decide, Or.inl ⟨rfl, ti_in 1872 (by decide +kernel) (by decide +kernel), ti_in 1874 (by decide +kernel) (by decide +kernel), ti_in 78 (by decide +kernel) (by decide +kernel), ⟨TX12, 43, rfl⟩, 2, rfl, by decide +kernel⟩⟩
set_option maxRecDepth 100000 in
theorem ti_m_12_339 : ti_MOK 12 339 (0, hX12_knownBy, 5, 3, yX12_knownBy) := ⟨ti_in 1883 (by decide +kernel) (by decide +kernel), ti_in 99 (by decide +kernel) (by decide +kernel), by decide, rfl, ⟨by decide +kernel, by decide +kernel⟩, by decide, Or.inl ⟨rfl, ti_in 1880 (by decide +kernel) (by decide +kernel), ti_in 1882 (by decide +kernel) (by decide +kernel), ti_in 79 (by decide +kernel) (by decide +kernel), ⟨TX12, 43, rfl⟩, 2, rfl, by decide +kernel⟩⟩
set_option maxRecDepth 100000 in
theorem ti_m_12_343 : ti_MOK 12 343 (0, hX12_heavyOf, 4, 2, yX12_heavyOf) := ⟨ti_in 1887 (by decide +kernel) (by decide +kernel), ti_in 99 (by decide +kernel) (by decide +kernel), by decide, rfl, ⟨by decide +kernel, by decide +kernel⟩, by decide, Or.inl ⟨rfl, ti_in 1884 (by decide +kernel) (by decide +kernel), ti_in 1886 (by decide +kernel) (by decide +kernel), ti_in 80 (by decide +kernel) (by decide +kernel), ⟨TX12, 43, rfl⟩, 1, rfl, by decide +kernel⟩⟩
set_option maxRecDepth 100000 in
theorem ti_m_12_349 : ti_MOK 12 349 (0, hX12_isWorld, 3, 2, yX12_isWorld) := ⟨ti_in 1911 (by decide +kernel) (by decide +kernel), ti_in 99 (by decide +kernel) (by decide +kernel), by decide, rfl, ⟨by decide +kernel, by decide +kernel⟩, by decide, Or.inl ⟨rfl, ti_in 1908 (by decide +kernel) (by decide +kernel), ti_in 1910 (by decide +kernel) (by decide +kernel), ti_in 81 (by decide +kernel) (by decide +kernel), ⟨TX12, 43, rfl⟩, 1, rfl, by decide +kernel⟩⟩
set_option maxRecDepth 100000 in
theorem ti_m_12_352 : ti_MOK 12 352 (0, hX12_worldsIf, 5, 3, yX12_worldsIf) := ⟨ti_in 1919 (by decide +kernel) (by decide +kernel), ti_in 99 (by decide +kernel) (by decide +kernel), by decide, rfl, ⟨by decide +kernel, by decide +kernel⟩, by decide, Or.inl ⟨rfl, ti_in 1916 (by decide +kernel) (by decide +kernel), ti_in 1918 (by decide +kernel) (by decide +kernel), ti_in 82 (by decide +kernel) (by decide +kernel), ⟨TX12, 43, rfl⟩, 2, rfl, by decide +kernel⟩⟩
set_option maxRecDepth 100000 in
theorem ti_m_12_358 : ti_MOK 12 358 (0, hX12_goWidow, 6, 5, yX12_goWidow) := ⟨ti_in 1931 (by decide +kernel) (by decide +kernel), ti_in 99 (by decide +kernel) (by decide +kernel), by decide, rfl, ⟨by decide +kernel, by decide +kernel⟩, by decide, Or.inl ⟨rfl, ti_in 1928 (by decide +kernel) (by decide +kernel), ti_in 1930 (by decide +kernel) (by decide +kernel), ti_in 83 (by decide +kernel) (by decide +kernel), ⟨TX12, 43, rfl⟩, 4, rfl, by decide +kernel⟩⟩
set_option maxRecDepth 100000 in
theorem ti_m_12_365 : ti_MOK 12 365 (0, hX12_doAgree, 4, 2, yX12_doAgree) := ⟨ti_in 1947 (by decide +kernel) (by decide +kernel), ti_in 99 (by decide +kernel) (by decide +kernel), by decide, rfl, ⟨by decide +kernel, by decide +kernel⟩, by decide, Or.inl ⟨rfl, ti_in 1944 (by decide +kernel) (by decide +kernel), ti_in 1946 (by decide +kernel) (by decide +kernel), ti_in 84 (by decide +kernel) (by decide +kernel), ⟨TX12, 43, rfl⟩, 1, rfl, by decide +kernel⟩⟩
set_option maxRecDepth 100000 in
theorem ti_m_12_368 : ti_MOK 12 368 (1, hX12_common, 4, 2, yX12_common) := ⟨ti_in 1958 (by decide +kernel) (by decide +kernel), ti_in 99 (by decide +kernel) (by decide +kernel), by decide, rfl, ⟨by decide +kernel, by decide +kernel⟩, by decide, Or.inr (Or.inl ⟨rfl, ti_in 1956 (by decide +kernel) (by decide +kernel), ti_in 1957 (by decide +kernel) (by decide +kernel), by decide +kernel⟩)⟩
set_option maxRecDepth 100000 in
theorem ti_m_12_372 : ti_MOK 12 372 (1, hX12_power, 6, 2, yX12_power) := ⟨ti_in 1954 (by decide +kernel) (by decide +kernel), ti_in 99 (by decide +kernel) (by decide +kernel), by decide, rfl, ⟨by decide +kernel, by decide +kernel⟩, by decide, Or.inr (Or.inl ⟨rfl, ti_in 1952 (by decide +kernel) (by decide +kernel), ti_in 1953 (by decide +kernel) (by decide +kernel), by decide +kernel⟩)⟩
set_option maxRecDepth 100000 in
theorem ti_m_12_378 : ti_MOK 12 378 (1, hX12_gets, 3, 3, yX12_gets) := ⟨ti_in 1968 (by decide +kernel) (by decide +kernel), ti_in 99 (by decide +kernel) (by decide +kernel), by decide, rfl, ⟨by decide +kernel, by decide +kernel⟩, by decide, Or.inr (Or.inl ⟨rfl, ti_in 1966 (by decide +kernel) (by decide +kernel), ti_in 1967 (by decide +kernel) (by decide +kernel), by decide +kernel⟩)⟩
set_option maxRecDepth 100000 in
theorem ti_m_12_382 : ti_MOK 12 382 (1, hX12_isBest, 4, 3, yX12_isBest) := ⟨ti_in 1965 (by decide +kernel) (by decide +kernel), ti_in 99 (by decide +kernel) (by decide +kernel), by decide, rfl, ⟨by decide +kernel, by decide +kernel⟩, by decide, Or.inr (Or.inl ⟨rfl, ti_in 1963 (by decide +kernel) (by decide +kernel), ti_in 1964 (by decide +kernel) (by decide +kernel), by decide +kernel⟩)⟩
set_option maxRecDepth 100000 in
theorem ti_m_12_389 : ti_MOK 12 389 (0, hX12_draw, 2, 2, yX12_draw) := ⟨ti_in 1980 (by decide +kernel) (by decide +kernel), ti_in 99 (by decide +kernel) (by decide +kernel), by decide, rfl, ⟨by decide +kernel, by decide +kernel⟩, by decide, Or.inl ⟨rfl, ti_in 1977 (by decide +kernel) (by decide +kernel), ti_in 1979 (by decide +kernel) (by decide +kernel), ti_in 85 (by decide +kernel) (by decide +kernel), ⟨TX12, 43, rfl⟩, 1, rfl, by decide +kernel⟩⟩
theorem ti_mok_12 : ∀ e ∈ ti_mr_12, ti_MOK 12 e.1 e.2 := List.forall_mem_cons.mpr ⟨ti_m_12_98, List.forall_mem_cons.mpr ⟨ti_m_12_123, List.forall_mem_cons.mpr ⟨ti_m_12_127, List.forall_mem_cons.mpr ⟨ti_m_12_131, List.forall_mem_cons.mpr ⟨ti_m_12_135, List.forall_mem_cons.mpr ⟨ti_m_12_139, List.forall_mem_cons.mpr ⟨ti_m_12_143, List.forall_mem_cons.mpr ⟨ti_m_12_153, List.forall_mem_cons.mpr ⟨ti_m_12_156, List.forall_mem_cons.mpr ⟨ti_m_12_159, List.forall_mem_cons.mpr ⟨ti_m_12_162, List.forall_mem_cons.mpr ⟨ti_m_12_166, List.forall_mem_cons.mpr ⟨ti_m_12_169, List.forall_mem_cons.mpr ⟨ti_m_12_173, List.forall_mem_cons.mpr ⟨ti_m_12_176, List.forall_mem_cons.mpr ⟨ti_m_12_179, List.forall_mem_cons.mpr ⟨ti_m_12_182, List.forall_mem_cons.mpr ⟨ti_m_12_185, List.forall_mem_cons.mpr ⟨ti_m_12_188, List.forall_mem_cons.mpr ⟨ti_m_12_195, List.forall_mem_cons.mpr ⟨ti_m_12_201, List.forall_mem_cons.mpr ⟨ti_m_12_211, List.forall_mem_cons.mpr ⟨ti_m_12_214, List.forall_mem_cons.mpr ⟨ti_m_12_219, List.forall_mem_cons.mpr ⟨ti_m_12_226, List.forall_mem_cons.mpr ⟨ti_m_12_230, List.forall_mem_cons.mpr ⟨ti_m_12_234, List.forall_mem_cons.mpr ⟨ti_m_12_237, List.forall_mem_cons.mpr ⟨ti_m_12_241, List.forall_mem_cons.mpr ⟨ti_m_12_244, List.forall_mem_cons.mpr ⟨ti_m_12_247, List.forall_mem_cons.mpr ⟨ti_m_12_250, List.forall_mem_cons.mpr ⟨ti_m_12_253, List.forall_mem_cons.mpr ⟨ti_m_12_257, List.forall_mem_cons.mpr ⟨ti_m_12_261, List.forall_mem_cons.mpr ⟨ti_m_12_265, List.forall_mem_cons.mpr ⟨ti_m_12_269, List.forall_mem_cons.mpr ⟨ti_m_12_272, List.forall_mem_cons.mpr ⟨ti_m_12_276, List.forall_mem_cons.mpr ⟨ti_m_12_279, List.forall_mem_cons.mpr ⟨ti_m_12_282, List.forall_mem_cons.mpr ⟨ti_m_12_285, List.forall_mem_cons.mpr ⟨ti_m_12_288, List.forall_mem_cons.mpr ⟨ti_m_12_291, List.forall_mem_cons.mpr ⟨ti_m_12_294, List.forall_mem_cons.mpr ⟨ti_m_12_297, List.forall_mem_cons.mpr ⟨ti_m_12_300, List.forall_mem_cons.mpr ⟨ti_m_12_303, List.forall_mem_cons.mpr ⟨ti_m_12_307, List.forall_mem_cons.mpr ⟨ti_m_12_310, List.forall_mem_cons.mpr ⟨ti_m_12_313, List.forall_mem_cons.mpr ⟨ti_m_12_316, List.forall_mem_cons.mpr ⟨ti_m_12_320, List.forall_mem_cons.mpr ⟨ti_m_12_323, List.forall_mem_cons.mpr ⟨ti_m_12_326, List.forall_mem_cons.mpr ⟨ti_m_12_333, List.forall_mem_cons.mpr ⟨ti_m_12_336, List.forall_mem_cons.mpr ⟨ti_m_12_339, List.forall_mem_cons.mpr ⟨ti_m_12_343, List.forall_mem_cons.mpr ⟨ti_m_12_349, List.forall_mem_cons.mpr ⟨ti_m_12_352, List.forall_mem_cons.mpr ⟨ti_m_12_358, List.forall_mem_cons.mpr ⟨ti_m_12_365, List.forall_mem_cons.mpr ⟨ti_m_12_368, List.forall_mem_cons.mpr ⟨ti_m_12_372, List.forall_mem_cons.mpr ⟨ti_m_12_378, List.forall_mem_cons.mpr ⟨ti_m_12_382, List.forall_mem_cons.mpr ⟨ti_m_12_389, fun _ h => absurd h List.not_mem_nil⟩⟩⟩⟩⟩⟩⟩⟩⟩⟩⟩⟩⟩⟩⟩⟩⟩⟩⟩⟩⟩⟩⟩⟩⟩⟩⟩⟩⟩⟩⟩⟩⟩⟩⟩⟩⟩⟩⟩⟩⟩⟩⟩⟩⟩⟩⟩⟩⟩⟩⟩⟩⟩⟩⟩⟩⟩⟩⟩⟩⟩⟩⟩⟩⟩⟩⟩⟩
theorem ti_b_12_205 : ti_BOK 12 205 0 := ⟨fun _ => ti_in 1657 (by decide +kernel) (by decide +kernel), fun h => absurd h (by decide), fun h => absurd h (by decide), fun h => absurd h (by decide), fun h => absurd h (by decide)⟩
theorem ti_b_12_223 : ti_BOK 12 223 1 := ⟨fun h => absurd h (by decide), fun _ => ti_in 1663 (by decide +kernel) (by decide +kernel), fun h => absurd h (by decide), fun h => absurd h (by decide), fun h => absurd h (by decide)⟩
theorem ti_b_12_330 : ti_BOK 12 330 2 := ⟨fun h => absurd h (by decide), fun h => absurd h (by decide), fun _ => ti_in 1863 (by decide +kernel) (by decide +kernel), fun h => absurd h (by decide), fun h => absurd h (by decide)⟩
theorem ti_bok_12 : ∀ e ∈ ti_br_12, ti_BOK 12 e.1 e.2 := List.forall_mem_cons.mpr ⟨ti_b_12_205, List.forall_mem_cons.mpr ⟨ti_b_12_223, List.forall_mem_cons.mpr ⟨ti_b_12_330, fun _ h => absurd h List.not_mem_nil⟩⟩⟩
theorem ti_fok_13 : ∀ e ∈ ti_fr_13, ti_FOK 13 e.1 e.2.1 e.2.2.1 e.2.2.2 := fun _ h => absurd h List.not_mem_nil
theorem ti_mok_13 : ∀ e ∈ ti_mr_13, ti_MOK 13 e.1 e.2 := fun _ h => absurd h List.not_mem_nil
theorem ti_bok_13 : ∀ e ∈ ti_br_13, ti_BOK 13 e.1 e.2 := fun _ h => absurd h List.not_mem_nil
