/-- the names that the references hold, once all is made -/
def RP : RPt := fun a i => match a, i with
  | (0, t, _, _), 0 => some (1, t, 0, 0)
  | (0, t, _, _), 1 => some (2, t, 0, 0)
  | (0, t, _, _), 2 => some (3, t, 0, 0)
  | (1, t, _, _), j => some (4, t, j, 0)
  | (4, t, j, _), 0 => some (5, t, j, 0)
  | (4, t, j, _), 1 => some (5, t, j, 1)
  | (5, t, j, b), 0 => some (6, t, j, b)
  | (5, t, j, b), 1 => some (7, t, j, b)
  | (8, _, _, _), 0 => some (9, 0, 0, 0)
  | (9, _, _, _), i => some (0, i + 1, 0, 0)
  | (10, _, _, _), i => some (0, i + 8, 0, 0)
  | (12, _, _, _), 0 => some (13, 0, 0, 0)
  | (14, _, _, _), 0 => some (12, 0, 0, 0)
  | (15, _, _, _), 0 => some (0, 0, 0, 0)
  | (15, _, _, _), 1 => some (8, 0, 0, 0)
  | (15, _, _, _), 2 => some (10, 0, 0, 0)
  | (15, _, _, _), 3 => some (11, 0, 0, 0)
  | (15, _, _, _), 4 => some (12, 0, 0, 0)
  | (15, _, _, _), 5 => some (14, 0, 0, 0)
  | _, _ => none
theorem lv_t : ∀ k, k < 4 → ∀ t, t < 10 → nm (pos (k, t, 0, 0)) = (k, t, 0, 0) ∧ pos (k, t, 0, 0) < 609 := by decide +kernel
theorem lv_s : ∀ t, t < 10 → ∀ j, j < 8 → nm (pos (4, t, j, 0)) = (4, t, j, 0) ∧ pos (4, t, j, 0) < 609 := by decide +kernel
theorem lv_h50 : ∀ t, t < 10 → ∀ j, j < 8 → nm (pos (5, t, j, 0)) = (5, t, j, 0) ∧ pos (5, t, j, 0) < 609 := by decide +kernel
theorem lv_h51 : ∀ t, t < 10 → ∀ j, j < 8 → nm (pos (5, t, j, 1)) = (5, t, j, 1) ∧ pos (5, t, j, 1) < 609 := by decide +kernel
theorem lv_h5 {t j b : Nat} (h : t < 10) (hj : j < 8) (hb : b < 2) : lvp 609 (5, t, j, b) := by
  match b, hb with
  | 0, _ => exact lv_h50 t h j hj
  | 1, _ => exact lv_h51 t h j hj
theorem lv_h60 : ∀ t, t < 10 → ∀ j, j < 8 → nm (pos (6, t, j, 0)) = (6, t, j, 0) ∧ pos (6, t, j, 0) < 609 := by decide +kernel
theorem lv_h61 : ∀ t, t < 10 → ∀ j, j < 8 → nm (pos (6, t, j, 1)) = (6, t, j, 1) ∧ pos (6, t, j, 1) < 609 := by decide +kernel
theorem lv_h6 {t j b : Nat} (h : t < 10) (hj : j < 8) (hb : b < 2) : lvp 609 (6, t, j, b) := by
  match b, hb with
  | 0, _ => exact lv_h60 t h j hj
  | 1, _ => exact lv_h61 t h j hj
theorem lv_h70 : ∀ t, t < 10 → ∀ j, j < 8 → nm (pos (7, t, j, 0)) = (7, t, j, 0) ∧ pos (7, t, j, 0) < 609 := by decide +kernel
theorem lv_h71 : ∀ t, t < 10 → ∀ j, j < 8 → nm (pos (7, t, j, 1)) = (7, t, j, 1) ∧ pos (7, t, j, 1) < 609 := by decide +kernel
theorem lv_h7 {t j b : Nat} (h : t < 10) (hj : j < 8) (hb : b < 2) : lvp 609 (7, t, j, b) := by
  match b, hb with
  | 0, _ => exact lv_h70 t h j hj
  | 1, _ => exact lv_h71 t h j hj
theorem lv_k : ∀ k, k < 9 → nm (pos (8 + k, 0, 0, 0)) = (8 + k, 0, 0, 0) ∧ pos (8 + k, 0, 0, 0) < 609 := by decide +kernel
theorem lv0 {t : Nat} (h : t < 10) : lvp 609 (0, t, 0, 0) := lv_t 0 (by decide) t h
theorem lv1 {t : Nat} (h : t < 10) : lvp 609 (1, t, 0, 0) := lv_t 1 (by decide) t h
theorem lv2 {t : Nat} (h : t < 10) : lvp 609 (2, t, 0, 0) := lv_t 2 (by decide) t h
theorem lv3 {t : Nat} (h : t < 10) : lvp 609 (3, t, 0, 0) := lv_t 3 (by decide) t h
theorem lv4 {t j : Nat} (h : t < 10) (hj : j < 8) : lvp 609 (4, t, j, 0) := lv_s t h j hj
theorem lv5 {t j b : Nat} (h : t < 10) (hj : j < 8) (hb : b < 2) : lvp 609 (5, t, j, b) := lv_h5 h hj hb
theorem lv6 {t j b : Nat} (h : t < 10) (hj : j < 8) (hb : b < 2) : lvp 609 (6, t, j, b) := lv_h6 h hj hb
theorem lv7 {t j b : Nat} (h : t < 10) (hj : j < 8) (hb : b < 2) : lvp 609 (7, t, j, b) := lv_h7 h hj hb
theorem lv8 : lvp 609 (8, 0, 0, 0) := lv_k 0 (by decide)
theorem lv9 : lvp 609 (9, 0, 0, 0) := lv_k 1 (by decide)
theorem lv10 : lvp 609 (10, 0, 0, 0) := lv_k 2 (by decide)
theorem lv11 : lvp 609 (11, 0, 0, 0) := lv_k 3 (by decide)
theorem lv12 : lvp 609 (12, 0, 0, 0) := lv_k 4 (by decide)
theorem lv13 : lvp 609 (13, 0, 0, 0) := lv_k 5 (by decide)
theorem lv14 : lvp 609 (14, 0, 0, 0) := lv_k 6 (by decide)
theorem lv15 : lvp 609 (15, 0, 0, 0) := lv_k 7 (by decide)
theorem lv16 : lvp 609 (16, 0, 0, 0) := lv_k 8 (by decide)
/-- answers: the ends of methods that make no cell -/
abbrev Pi (r : Int32) (h1 : HPt) : Pst := fun v n' rp' hp' => v = some (vI r) ∧ n' = 609 ∧ rp' = RP ∧ hp' = h1
abbrev Pv (h1 : HPt) : Pst := fun v n' rp' hp' => v = none ∧ n' = 609 ∧ rp' = RP ∧ hp' = h1
abbrev Pa (r : A4) (h1 : HPt) : Pst := fun v n' rp' hp' => v = some (vR r) ∧ n' = 609 ∧ rp' = RP ∧ hp' = h1
/-- contracts of methods that make no cell -/
def Ci (g : Gh) (J : Md) (as : List Vv) (hp : HPt) (r : Int32) (h1 : HPt) : Prop := V g J 0 0 0 0 609 0 (inL as (mL J)) [] RP hp (Pi r h1)
def Cv (g : Gh) (J : Md) (as : List Vv) (hp : HPt) (h1 : HPt) : Prop := V g J 0 0 0 0 609 0 (inL as (mL J)) [] RP hp (Pv h1)
def Ca (g : Gh) (J : Md) (as : List Vv) (hp : HPt) (r : A4) (h1 : HPt) : Prop := V g J 0 0 0 0 609 0 (inL as (mL J)) [] RP hp (Pa r h1)
abbrev mJ9_floorMod_7cf53 : Md := (yJ9_floorMod_7cf53, cJ9_floorMod_7cf53, 3, some .int, 0, 0)
abbrev mJ9_max_7cf53 : Md := (yJ9_max_7cf53, cJ9_max_7cf53, 2, some .int, 0, 0)
abbrev mJ9_min_7cf53 : Md := (yJ9_min_7cf53, cJ9_min_7cf53, 2, some .int, 0, 0)
abbrev mL_cell : Md := (yL_cell, cL_cell, 2, some .int, 0, 0)
abbrev mL_change : Md := (yL_change, cL_change, 9, some .int, 7, 147)
abbrev mL_holds : Md := (yL_holds, cL_holds, 7, some .boolean, 7, 153)
abbrev mL_isCaught : Md := (yL_isCaught, cL_isCaught, 3, some .boolean, 4, 90)
abbrev mL_isSecret : Md := (yL_isSecret, cL_isSecret, 10, some .boolean, 6, 124)
abbrev mL_isStore : Md := (yL_isStore, cL_isStore, 7, some .boolean, 5, 116)
abbrev mL_law : Md := (yL_law, cL_law, 12, some .boolean, 8, 179)
abbrev mL_low : Md := (yL_low, cL_low, 2, some .int, 0, 0)
abbrev mX0_catches : Md := (yX0_catches, cX0_catches, 2, some .boolean, 2, 41)
abbrev mX0_copyHalf : Md := (yX0_copyHalf, cX0_copyHalf, 3, none, 0, 0)
abbrev mX0_freeRowOfNow : Md := (yX0_freeRowOfNow, cX0_freeRowOfNow, 2, none, 0, 0)
abbrev mX0_init : Md := (yX0_init, cX0_init, 1, none, 1, 20)
abbrev mX0_lies : Md := (yX0_lies, cX0_lies, 1, some .boolean, 0, 0)
abbrev mX0_partWith : Md := (yX0_partWith, cX0_partWith, 2, some .int, 0, 0)
abbrev mX0_tagDueFor : Md := (yX0_tagDueFor, cX0_tagDueFor, 2, some .int, 0, 0)
abbrev mX0_toldPart : Md := (yX0_toldPart, cX0_toldPart, 1, some .int, 1, 21)
abbrev mX0_toldTag : Md := (yX0_toldTag, cX0_toldTag, 1, some .int, 0, 0)
abbrev mX1_draft : Md := (yX1_draft, cX1_draft, 2, none, 3, 65)
abbrev mX1_init : Md := (yX1_init, cX1_init, 2, none, 4, 81)
abbrev mX1_recordDraft : Md := (yX1_recordDraft, cX1_recordDraft, 1, none, 0, 0)
abbrev mX1_takesBack : Md := (yX1_takesBack, cX1_takesBack, 2, some .boolean, 3, 65)
abbrev mX2_init : Md := (yX2_init, cX2_init, 1, none, 1, 20)
abbrev mX3_init : Md := (yX3_init, cX3_init, 2, none, 1, 20)
abbrev mX4_ageKeeping : Md := (yX4_ageKeeping, cX4_ageKeeping, 3, some .int, 1, 21)
abbrev mX4_answerIfMerged : Md := (yX4_answerIfMerged, cX4_answerIfMerged, 1, some .int, 3, 62)
abbrev mX4_copySecret : Md := (yX4_copySecret, cX4_copySecret, 2, none, 1, 22)
abbrev mX4_halfBeside : Md := (yX4_halfBeside, cX4_halfBeside, 2, some (.object "SplitSecrets$Half"), 0, 0)
abbrev mX4_halfIn : Md := (yX4_halfIn, cX4_halfIn, 2, some (.object "SplitSecrets$Half"), 0, 0)
abbrev mX4_init : Md := (yX4_init, cX4_init, 1, none, 2, 40)
abbrev mX4_open : Md := (yX4_open, cX4_open, 3, none, 0, 0)
abbrev mX4_partForThief : Md := (yX4_partForThief, cX4_partForThief, 4, some .int, 1, 21)
abbrev mX4_rowsAtRisk : Md := (yX4_rowsAtRisk, cX4_rowsAtRisk, 3, some .int, 0, 0)
abbrev mX4_takenSet : Md := (yX4_takenSet, cX4_takenSet, 2, some .int, 0, 0)
abbrev mX4_value : Md := (yX4_value, cX4_value, 1, some .int, 0, 0)
abbrev mX5_adm : Md := (yX5_adm, cX5_adm, 2, some .int, 2, 46)
abbrev mX5_answerOfMerger : Md := (yX5_answerOfMerger, cX5_answerOfMerger, 2, some .int, 4, 82)
abbrev mX5_burnOldVersions : Md := (yX5_burnOldVersions, cX5_burnOldVersions, 3, some .int, 1, 21)
abbrev mX5_changeSetting : Md := (yX5_changeSetting, cX5_changeSetting, 4, some .int, 0, 0)
abbrev mX5_changeX : Md := (yX5_changeX, cX5_changeX, 3, some .int, 0, 0)
abbrev mX5_copyState : Md := (yX5_copyState, cX5_copyState, 3, none, 2, 43)
abbrev mX5_drawn : Md := (yX5_drawn, cX5_drawn, 1, some .int, 0, 0)
abbrev mX5_figure : Md := (yX5_figure, cX5_figure, 2, some .int, 1, 22)
abbrev mX5_figureOfHalf : Md := (yX5_figureOfHalf, cX5_figureOfHalf, 5, some .int, 2, 43)
abbrev mX5_figureOfOldVersion : Md := (yX5_figureOfOldVersion, cX5_figureOfOldVersion, 6, some .int, 1, 21)
abbrev mX5_figureOfSecret : Md := (yX5_figureOfSecret, cX5_figureOfSecret, 4, some .int, 1, 21)
abbrev mX5_givePartToThief : Md := (yX5_givePartToThief, cX5_givePartToThief, 5, some .int, 2, 44)
abbrev mX5_hasHalf : Md := (yX5_hasHalf, cX5_hasHalf, 3, some .boolean, 1, 21)
abbrev mX5_hasSecret : Md := (yX5_hasSecret, cX5_hasSecret, 2, some .boolean, 0, 0)
abbrev mX5_init : Md := (yX5_init, cX5_init, 2, none, 3, 60)
abbrev mX5_makeNextVersion : Md := (yX5_makeNextVersion, cX5_makeNextVersion, 3, none, 2, 46)
abbrev mX5_makeVersion : Md := (yX5_makeVersion, cX5_makeVersion, 5, none, 1, 22)
abbrev mX5_mergeParts : Md := (yX5_mergeParts, cX5_mergeParts, 4, some .int, 5, 103)
abbrev mX5_offsetsThatPass : Md := (yX5_offsetsThatPass, cX5_offsetsThatPass, 6, some .int, 3, 68)
abbrev mX5_otherPartFor : Md := (yX5_otherPartFor, cX5_otherPartFor, 4, some .int, 2, 43)
abbrev mX5_partsNeeded : Md := (yX5_partsNeeded, cX5_partsNeeded, 2, some .int, 1, 22)
abbrev mX5_passBeats : Md := (yX5_passBeats, cX5_passBeats, 4, some .int, 4, 89)
abbrev mX5_passOneBeat : Md := (yX5_passOneBeat, cX5_passOneBeat, 2, none, 3, 68)
abbrev mX5_renew : Md := (yX5_renew, cX5_renew, 3, some .int, 3, 68)
abbrev mX5_setOfKnown : Md := (yX5_setOfKnown, cX5_setOfKnown, 3, some .int, 0, 0)
abbrev mX5_setOfOpen : Md := (yX5_setOfOpen, cX5_setOfOpen, 3, some .int, 0, 0)
abbrev mX5_someStoreSleeps : Md := (yX5_someStoreSleeps, cX5_someStoreSleeps, 1, some .boolean, 0, 0)
abbrev mX5_tagOffsetThatPasses : Md := (yX5_tagOffsetThatPasses, cX5_tagOffsetThatPasses, 6, some .int, 2, 43)
abbrev mX5_takeUpLie : Md := (yX5_takeUpLie, cX5_takeUpLie, 7, some .int, 2, 43)
abbrev mX5_turnSleep : Md := (yX5_turnSleep, cX5_turnSleep, 2, some .int, 1, 20)
abbrev mX5_versionsAtRisk : Md := (yX5_versionsAtRisk, cX5_versionsAtRisk, 2, some .int, 1, 22)
abbrev mX6_atRisk : Md := (yX6_atRisk, cX6_atRisk, 2, some .int, 2, 43)
abbrev mX6_burn : Md := (yX6_burn, cX6_burn, 2, some .int, 4, 86)
abbrev mX6_count : Md := (yX6_count, cX6_count, 2, some .int, 2, 43)
abbrev mX6_ifMerged : Md := (yX6_ifMerged, cX6_ifMerged, 2, some .int, 5, 103)
abbrev mX6_init : Md := (yX6_init, cX6_init, 2, none, 5, 102)
abbrev mX6_isPart : Md := (yX6_isPart, cX6_isPart, 1, some .boolean, 0, 0)
abbrev mX6_isStore : Md := (yX6_isStore, cX6_isStore, 1, some .boolean, 0, 0)
abbrev mX6_isTag : Md := (yX6_isTag, cX6_isTag, 1, some .boolean, 0, 0)
abbrev mX6_keep : Md := (yX6_keep, cX6_keep, 2, some .int, 4, 86)
abbrev mX6_lie : Md := (yX6_lie, cX6_lie, 5, some .int, 4, 86)
abbrev mX6_merge : Md := (yX6_merge, cX6_merge, 2, some .int, 6, 126)
abbrev mX6_needed : Md := (yX6_needed, cX6_needed, 2, some .int, 2, 43)
abbrev mX6_of : Md := (yX6_of, cX6_of, 4, some .int, 3, 67)
abbrev mX6_ofSecret : Md := (yX6_ofSecret, cX6_ofSecret, 3, some .int, 2, 44)
abbrev mX6_old : Md := (yX6_old, cX6_old, 4, some .int, 2, 46)
abbrev mX6_otherwise : Md := (yX6_otherwise, cX6_otherwise, 4, some .int, 3, 66)
abbrev mX6_pass : Md := (yX6_pass, cX6_pass, 2, some .int, 5, 112)
abbrev mX6_passes : Md := (yX6_passes, cX6_passes, 4, some .int, 4, 93)
abbrev mX6_passing : Md := (yX6_passing, cX6_passing, 4, some .int, 3, 68)
abbrev mX6_recorded : Md := (yX6_recorded, cX6_recorded, 2, some .int, 1, 20)
abbrev mX6_refresh : Md := (yX6_refresh, cX6_refresh, 2, some .int, 4, 90)
abbrev mX6_seed : Md := (yX6_seed, cX6_seed, 2, some .int, 4, 86)
abbrev mX6_set : Md := (yX6_set, cX6_set, 3, some .int, 4, 86)
abbrev mX6_sleep : Md := (yX6_sleep, cX6_sleep, 2, some .int, 4, 86)
abbrev mX6_steal : Md := (yX6_steal, cX6_steal, 4, some .int, 4, 86)
abbrev mX6_undo : Md := (yX6_undo, cX6_undo, 1, some .int, 4, 86)
