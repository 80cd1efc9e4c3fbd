/-! closed contracts; printed by wip/whole/gen2.py -/
def r_X0_init : Room := { frames := 1, cells := 3, slots := 72, locals := 20 }
def K_X0_init : am_T := WP_X0_init 3 72
theorem k_X0_init : am_S true yX0_init (am_ws yX0_init cX0_init 1 none) r_X0_init K_X0_init := s_X0_init ⟨Nat.le_of_ble_eq_true rfl, Nat.le_of_ble_eq_true rfl⟩
def r_X0_has : Room := { frames := 0, cells := 0, slots := 0, locals := 0 }
def K_X0_has : am_T := WP_X0_has
theorem k_X0_has : am_S false yX0_has (am_ws yX0_has cX0_has 2 (some .boolean)) r_X0_has K_X0_has := s_X0_has ⟨rfl, rfl⟩
def r_X7_at : Room := { frames := 0, cells := 0, slots := 0, locals := 0 }
def K_X7_at : am_T := WP_X7_at
theorem k_X7_at : am_S false yX7_at (am_ws yX7_at cX7_at 2 (some .int)) r_X7_at K_X7_at := s_X7_at ⟨rfl, rfl⟩
def r_X7_wordEnd : Room := { frames := 1, cells := 0, slots := 0, locals := 21 }
def K_X7_wordEnd : am_T := WP_X7_wordEnd K_X7_at
theorem k_X7_wordEnd : am_S false yX7_wordEnd (am_ws yX7_wordEnd cX7_wordEnd 3 (some .int)) r_X7_wordEnd K_X7_wordEnd := s_X7_wordEnd k_X7_at ⟨rfl, rfl⟩ ⟨Nat.le_of_ble_eq_true rfl, Nat.le_of_ble_eq_true rfl⟩
def r_J0_coder_7d493 : Room := { frames := 0, cells := 0, slots := 0, locals := 0 }
def K_J0_coder_7d493 : am_T := WP_J0_coder_7d493
theorem k_J0_coder_7d493 : am_S false yJ0_coder_7d493 (am_ws yJ0_coder_7d493 cJ0_coder_7d493 1 (some .byte)) r_J0_coder_7d493 K_J0_coder_7d493 := s_J0_coder_7d493 ⟨rfl, rfl⟩
def r_J0_length_8abf5 : Room := { frames := 1, cells := 0, slots := 0, locals := 20 }
def K_J0_length_8abf5 : am_T := WP_J0_length_8abf5 K_J0_coder_7d493
theorem k_J0_length_8abf5 : am_S false yJ0_length_8abf5 (am_ws yJ0_length_8abf5 cJ0_length_8abf5 1 (some .int)) r_J0_length_8abf5 K_J0_length_8abf5 := s_J0_length_8abf5 k_J0_coder_7d493 ⟨rfl, rfl⟩ ⟨Nat.le_of_ble_eq_true rfl, Nat.le_of_ble_eq_true rfl⟩
def r_J0_isLatin1_aae02 : Room := { frames := 0, cells := 0, slots := 0, locals := 0 }
def K_J0_isLatin1_aae02 : am_T := WP_J0_isLatin1_aae02
theorem k_J0_isLatin1_aae02 : am_S false yJ0_isLatin1_aae02 (am_ws yJ0_isLatin1_aae02 cJ0_isLatin1_aae02 1 (some .boolean)) r_J0_isLatin1_aae02 K_J0_isLatin1_aae02 := s_J0_isLatin1_aae02 ⟨rfl, rfl⟩
def r_J3_checkIndex_8e157 : Room := { frames := 0, cells := 0, slots := 0, locals := 0 }
def K_J3_checkIndex_8e157 : am_T := WP_J3_checkIndex_8e157
theorem k_J3_checkIndex_8e157 : am_S false yJ3_checkIndex_8e157 (am_ws yJ3_checkIndex_8e157 cJ3_checkIndex_8e157 3 (some .int)) r_J3_checkIndex_8e157 K_J3_checkIndex_8e157 := s_J3_checkIndex_8e157 ⟨rfl, rfl⟩
def r_J0_checkIndex_df160 : Room := { frames := 1, cells := 0, slots := 0, locals := 22 }
def K_J0_checkIndex_df160 : am_T := WP_J0_checkIndex_df160 K_J3_checkIndex_8e157
theorem k_J0_checkIndex_df160 : am_S false yJ0_checkIndex_df160 (am_ws yJ0_checkIndex_df160 cJ0_checkIndex_df160 2 none) r_J0_checkIndex_df160 K_J0_checkIndex_df160 := s_J0_checkIndex_df160 k_J3_checkIndex_8e157 ⟨rfl, rfl⟩ ⟨Nat.le_of_ble_eq_true rfl, Nat.le_of_ble_eq_true rfl⟩
def r_J1_charAt_3b067 : Room := { frames := 2, cells := 0, slots := 0, locals := 43 }
def K_J1_charAt_3b067 : am_T := WP_J1_charAt_3b067 K_J0_checkIndex_df160
theorem k_J1_charAt_3b067 : am_S false yJ1_charAt_3b067 (am_ws yJ1_charAt_3b067 cJ1_charAt_3b067 2 (some .char)) r_J1_charAt_3b067 K_J1_charAt_3b067 := s_J1_charAt_3b067 k_J0_checkIndex_df160 ⟨rfl, rfl⟩ ⟨Nat.le_of_ble_eq_true rfl, Nat.le_of_ble_eq_true rfl⟩
def r_J0_charAt_5068e : Room := { frames := 3, cells := 0, slots := 0, locals := 64 }
def K_J0_charAt_5068e : am_T := WP_J0_charAt_5068e K_J0_isLatin1_aae02 K_J1_charAt_3b067
theorem k_J0_charAt_5068e : am_S false yJ0_charAt_5068e (am_ws yJ0_charAt_5068e cJ0_charAt_5068e 2 (some .char)) r_J0_charAt_5068e K_J0_charAt_5068e := s_J0_charAt_5068e k_J0_isLatin1_aae02 k_J1_charAt_3b067 ⟨rfl, rfl⟩ ⟨Nat.le_of_ble_eq_true rfl, Nat.le_of_ble_eq_true rfl⟩ ⟨Nat.le_of_ble_eq_true rfl, Nat.le_of_ble_eq_true rfl⟩
def r_X8_sortOf : Room := { frames := 4, cells := 0, slots := 0, locals := 85 }
def K_X8_sortOf : am_T := WP_X8_sortOf K_J0_length_8abf5 K_J0_charAt_5068e
theorem k_X8_sortOf : am_S false yX8_sortOf (am_ws yX8_sortOf cX8_sortOf 2 (some .int)) r_X8_sortOf K_X8_sortOf := s_X8_sortOf k_J0_length_8abf5 k_J0_charAt_5068e ⟨rfl, rfl⟩ ⟨Nat.le_of_ble_eq_true rfl, Nat.le_of_ble_eq_true rfl⟩ ⟨Nat.le_of_ble_eq_true rfl, Nat.le_of_ble_eq_true rfl⟩
def r_X7_entryEnd : Room := { frames := 5, cells := 0, slots := 0, locals := 106 }
def K_X7_entryEnd : am_T := WP_X7_entryEnd K_X7_wordEnd K_X7_at K_X8_sortOf
theorem k_X7_entryEnd : am_S false yX7_entryEnd (am_ws yX7_entryEnd cX7_entryEnd 5 (some .int)) r_X7_entryEnd K_X7_entryEnd := s_X7_entryEnd k_X7_wordEnd k_X7_at k_X8_sortOf ⟨rfl, rfl⟩ ⟨Nat.le_of_ble_eq_true rfl, Nat.le_of_ble_eq_true rfl⟩ ⟨Nat.le_of_ble_eq_true rfl, Nat.le_of_ble_eq_true rfl⟩ ⟨Nat.le_of_ble_eq_true rfl, Nat.le_of_ble_eq_true rfl⟩
def r_X2_with : Room := { frames := 0, cells := 0, slots := 0, locals := 0 }
def K_X2_with : am_T := WP_X2_with
theorem k_X2_with : am_S false yX2_with (am_ws yX2_with cX2_with 4 (some .long)) r_X2_with K_X2_with := s_X2_with ⟨rfl, rfl⟩
def r_X7_packed : Room := { frames := 1, cells := 0, slots := 0, locals := 23 }
def K_X7_packed : am_T := WP_X7_packed K_X7_at K_X2_with
theorem k_X7_packed : am_S false yX7_packed (am_ws yX7_packed cX7_packed 6 (some .long)) r_X7_packed K_X7_packed := s_X7_packed k_X7_at k_X2_with ⟨rfl, rfl⟩ ⟨Nat.le_of_ble_eq_true rfl, Nat.le_of_ble_eq_true rfl⟩ ⟨Nat.le_of_ble_eq_true rfl, Nat.le_of_ble_eq_true rfl⟩
def r_X0_find : Room := { frames := 0, cells := 0, slots := 0, locals := 0 }
def K_X0_find : am_T := WP_X0_find
theorem k_X0_find : am_S false yX0_find (am_ws yX0_find cX0_find 7 (some .int)) r_X0_find K_X0_find := s_X0_find ⟨rfl, rfl⟩
def r_X0_added : Room := { frames := 5, cells := 0, slots := 0, locals := 106 }
def K_X0_added : am_T := WP_X0_added K_X7_wordEnd K_X7_packed K_X7_at K_X8_sortOf K_X0_find
theorem k_X0_added : am_S false yX0_added (am_ws yX0_added cX0_added 11 (some .boolean)) r_X0_added K_X0_added := s_X0_added k_X7_wordEnd k_X7_packed k_X7_at k_X8_sortOf k_X0_find ⟨rfl, rfl⟩ ⟨Nat.le_of_ble_eq_true rfl, Nat.le_of_ble_eq_true rfl⟩ ⟨Nat.le_of_ble_eq_true rfl, Nat.le_of_ble_eq_true rfl⟩ ⟨Nat.le_of_ble_eq_true rfl, Nat.le_of_ble_eq_true rfl⟩ ⟨Nat.le_of_ble_eq_true rfl, Nat.le_of_ble_eq_true rfl⟩ ⟨Nat.le_of_ble_eq_true rfl, Nat.le_of_ble_eq_true rfl⟩
def r_X0_readFrom : Room := { frames := 6, cells := 0, slots := 0, locals := 136 }
def K_X0_readFrom : am_T := WP_X0_readFrom K_X7_entryEnd K_X0_added
theorem k_X0_readFrom : am_S false yX0_readFrom (am_ws yX0_readFrom cX0_readFrom 5 (some .int)) r_X0_readFrom K_X0_readFrom := s_X0_readFrom k_X7_entryEnd k_X0_added ⟨rfl, rfl⟩ ⟨Nat.le_of_ble_eq_true rfl, Nat.le_of_ble_eq_true rfl⟩ ⟨Nat.le_of_ble_eq_true rfl, Nat.le_of_ble_eq_true rfl⟩
def r_X0_remove : Room := { frames := 1, cells := 0, slots := 0, locals := 21 }
def K_X0_remove : am_T := WP_X0_remove K_X0_has
theorem k_X0_remove : am_S false yX0_remove (am_ws yX0_remove cX0_remove 3 none) r_X0_remove K_X0_remove := s_X0_remove k_X0_has ⟨rfl, rfl⟩ ⟨Nat.le_of_ble_eq_true rfl, Nat.le_of_ble_eq_true rfl⟩
def r_X0_stands : Room := { frames := 0, cells := 0, slots := 0, locals := 0 }
def K_X0_stands : am_T := WP_X0_stands
theorem k_X0_stands : am_S false yX0_stands (am_ws yX0_stands cX0_stands 3 (some .int)) r_X0_stands K_X0_stands := s_X0_stands ⟨rfl, rfl⟩
def r_X1_init : Room := { frames := 1, cells := 3, slots := 55, locals := 20 }
def K_X1_init : am_T := WP_X1_init 3 55
theorem k_X1_init : am_S true yX1_init (am_ws yX1_init cX1_init 1 none) r_X1_init K_X1_init := s_X1_init ⟨Nat.le_of_ble_eq_true rfl, Nat.le_of_ble_eq_true rfl⟩
def r_X1_has : Room := { frames := 0, cells := 0, slots := 0, locals := 0 }
def K_X1_has : am_T := WP_X1_has
theorem k_X1_has : am_S false yX1_has (am_ws yX1_has cX1_has 2 (some .boolean)) r_X1_has K_X1_has := s_X1_has ⟨rfl, rfl⟩
def r_X1_wordAt : Room := { frames := 1, cells := 0, slots := 0, locals := 21 }
def K_X1_wordAt : am_T := WP_X1_wordAt K_X1_has
theorem k_X1_wordAt : am_S false yX1_wordAt (am_ws yX1_wordAt cX1_wordAt 2 (some .long)) r_X1_wordAt K_X1_wordAt := s_X1_wordAt k_X1_has ⟨rfl, rfl⟩ ⟨Nat.le_of_ble_eq_true rfl, Nat.le_of_ble_eq_true rfl⟩
def r_X1_wordsIn : Room := { frames := 2, cells := 0, slots := 0, locals := 43 }
def K_X1_wordsIn : am_T := WP_X1_wordsIn K_X7_wordEnd K_X7_at
theorem k_X1_wordsIn : am_S false yX1_wordsIn (am_ws yX1_wordsIn cX1_wordsIn 4 (some .int)) r_X1_wordsIn K_X1_wordsIn := s_X1_wordsIn k_X7_wordEnd k_X7_at ⟨rfl, rfl⟩ ⟨Nat.le_of_ble_eq_true rfl, Nat.le_of_ble_eq_true rfl⟩ ⟨Nat.le_of_ble_eq_true rfl, Nat.le_of_ble_eq_true rfl⟩
def r_X1_readFrom : Room := { frames := 3, cells := 0, slots := 0, locals := 66 }
def K_X1_readFrom : am_T := WP_X1_readFrom K_X1_wordsIn K_X7_wordEnd K_X7_packed K_X7_at
theorem k_X1_readFrom : am_S false yX1_readFrom (am_ws yX1_readFrom cX1_readFrom 7 (some .boolean)) r_X1_readFrom K_X1_readFrom := s_X1_readFrom k_X1_wordsIn k_X7_wordEnd k_X7_packed k_X7_at ⟨rfl, rfl⟩ ⟨Nat.le_of_ble_eq_true rfl, Nat.le_of_ble_eq_true rfl⟩ ⟨Nat.le_of_ble_eq_true rfl, Nat.le_of_ble_eq_true rfl⟩ ⟨Nat.le_of_ble_eq_true rfl, Nat.le_of_ble_eq_true rfl⟩ ⟨Nat.le_of_ble_eq_true rfl, Nat.le_of_ble_eq_true rfl⟩
def r_X1_includes : Room := { frames := 0, cells := 0, slots := 0, locals := 0 }
def K_X1_includes : am_T := WP_X1_includes
theorem k_X1_includes : am_S false yX1_includes (am_ws yX1_includes cX1_includes 4 (some .boolean)) r_X1_includes K_X1_includes := s_X1_includes ⟨rfl, rfl⟩
def r_X2_size : Room := { frames := 0, cells := 0, slots := 0, locals := 0 }
def K_X2_size : am_T := WP_X2_size
theorem k_X2_size : am_S false yX2_size (am_ws yX2_size cX2_size 3 (some .int)) r_X2_size K_X2_size := s_X2_size ⟨rfl, rfl⟩
def r_X2_times : Room := { frames := 0, cells := 0, slots := 0, locals := 0 }
def K_X2_times : am_T := WP_X2_times
theorem k_X2_times : am_S false yX2_times (am_ws yX2_times cX2_times 5 (some .int)) r_X2_times K_X2_times := s_X2_times ⟨rfl, rfl⟩
def r_X2_areSame : Room := { frames := 1, cells := 0, slots := 0, locals := 24 }
def K_X2_areSame : am_T := WP_X2_areSame K_X2_times
theorem k_X2_areSame : am_S false yX2_areSame (am_ws yX2_areSame cX2_areSame 6 (some .boolean)) r_X2_areSame K_X2_areSame := s_X2_areSame k_X2_times ⟨rfl, rfl⟩ ⟨Nat.le_of_ble_eq_true rfl, Nat.le_of_ble_eq_true rfl⟩
def r_X1_isAnagram : Room := { frames := 2, cells := 0, slots := 0, locals := 49 }
def K_X1_isAnagram : am_T := WP_X1_isAnagram K_X2_size K_X2_areSame K_X2_with
theorem k_X1_isAnagram : am_S false yX1_isAnagram (am_ws yX1_isAnagram cX1_isAnagram 8 (some .boolean)) r_X1_isAnagram K_X1_isAnagram := s_X1_isAnagram k_X2_size k_X2_areSame k_X2_with ⟨rfl, rfl⟩ ⟨Nat.le_of_ble_eq_true rfl, Nat.le_of_ble_eq_true rfl⟩ ⟨Nat.le_of_ble_eq_true rfl, Nat.le_of_ble_eq_true rfl⟩ ⟨Nat.le_of_ble_eq_true rfl, Nat.le_of_ble_eq_true rfl⟩
def r_X1_initials : Room := { frames := 1, cells := 0, slots := 0, locals := 23 }
def K_X1_initials : am_T := WP_X1_initials K_X2_with
theorem k_X1_initials : am_S false yX1_initials (am_ws yX1_initials cX1_initials 6 (some .long)) r_X1_initials K_X1_initials := s_X1_initials k_X2_with ⟨rfl, rfl⟩ ⟨Nat.le_of_ble_eq_true rfl, Nat.le_of_ble_eq_true rfl⟩
def r_X2_at : Room := { frames := 0, cells := 0, slots := 0, locals := 0 }
def K_X2_at : am_T := WP_X2_at
theorem k_X2_at : am_S false yX2_at (am_ws yX2_at cX2_at 3 (some .int)) r_X2_at K_X2_at := s_X2_at ⟨rfl, rfl⟩
def r_X1_standsAt : Room := { frames := 1, cells := 0, slots := 0, locals := 22 }
def K_X1_standsAt : am_T := WP_X1_standsAt K_X2_at
theorem k_X1_standsAt : am_S false yX1_standsAt (am_ws yX1_standsAt cX1_standsAt 6 (some .boolean)) r_X1_standsAt K_X1_standsAt := s_X1_standsAt k_X2_at ⟨rfl, rfl⟩ ⟨Nat.le_of_ble_eq_true rfl, Nat.le_of_ble_eq_true rfl⟩
def r_X1_hidingPlaces : Room := { frames := 2, cells := 0, slots := 0, locals := 47 }
def K_X1_hidingPlaces : am_T := WP_X1_hidingPlaces K_X2_size K_X1_standsAt
theorem k_X1_hidingPlaces : am_S false yX1_hidingPlaces (am_ws yX1_hidingPlaces cX1_hidingPlaces 9 (some .int)) r_X1_hidingPlaces K_X1_hidingPlaces := s_X1_hidingPlaces k_X2_size k_X1_standsAt ⟨rfl, rfl⟩ ⟨Nat.le_of_ble_eq_true rfl, Nat.le_of_ble_eq_true rfl⟩ ⟨Nat.le_of_ble_eq_true rfl, Nat.le_of_ble_eq_true rfl⟩
def r_X2_shortened : Room := { frames := 1, cells := 0, slots := 0, locals := 22 }
def K_X2_shortened : am_T := WP_X2_shortened K_X2_size
theorem k_X2_shortened : am_S false yX2_shortened (am_ws yX2_shortened cX2_shortened 4 (some .long)) r_X2_shortened K_X2_shortened := s_X2_shortened k_X2_size ⟨rfl, rfl⟩ ⟨Nat.le_of_ble_eq_true rfl, Nat.le_of_ble_eq_true rfl⟩
def r_X3_init : Room := { frames := 1, cells := 1, slots := 200, locals := 20 }
def K_X3_init : am_T := WP_X3_init 1 200
theorem k_X3_init : am_S true yX3_init (am_ws yX3_init cX3_init 2 none) r_X3_init K_X3_init := s_X3_init ⟨Nat.le_of_ble_eq_true rfl, Nat.le_of_ble_eq_true rfl⟩
def r_X5_stampNow : Room := { frames := 0, cells := 0, slots := 0, locals := 0 }
def K_X5_stampNow : am_T := WP_X5_stampNow
theorem k_X5_stampNow : am_S false yX5_stampNow (am_ws yX5_stampNow cX5_stampNow 1 (some .int)) r_X5_stampNow K_X5_stampNow := s_X5_stampNow ⟨rfl, rfl⟩
def r_X6_has : Room := { frames := 0, cells := 0, slots := 0, locals := 0 }
def K_X6_has : am_T := WP_X6_has
theorem k_X6_has : am_S false yX6_has (am_ws yX6_has cX6_has 2 (some .boolean)) r_X6_has K_X6_has := s_X6_has ⟨rfl, rfl⟩
def r_X6_opens : Room := { frames := 1, cells := 0, slots := 0, locals := 21 }
def K_X6_opens : am_T := WP_X6_opens K_X6_has
theorem k_X6_opens : am_S false yX6_opens (am_ws yX6_opens cX6_opens 3 (some .boolean)) r_X6_opens K_X6_opens := s_X6_opens k_X6_has ⟨rfl, rfl⟩ ⟨Nat.le_of_ble_eq_true rfl, Nat.le_of_ble_eq_true rfl⟩
def r_X5_isDefinedFirst : Room := { frames := 0, cells := 0, slots := 0, locals := 0 }
def K_X5_isDefinedFirst : am_T := WP_X5_isDefinedFirst
theorem k_X5_isDefinedFirst : am_S false yX5_isDefinedFirst (am_ws yX5_isDefinedFirst cX5_isDefinedFirst 1 (some .boolean)) r_X5_isDefinedFirst K_X5_isDefinedFirst := s_X5_isDefinedFirst ⟨rfl, rfl⟩
def r_X5_maySay : Room := { frames := 1, cells := 0, slots := 0, locals := 26 }
def K_X5_maySay : am_T := WP_X5_maySay K_X0_find
theorem k_X5_maySay : am_S false yX5_maySay (am_ws yX5_maySay cX5_maySay 6 (some .boolean)) r_X5_maySay K_X5_maySay := s_X5_maySay k_X0_find ⟨rfl, rfl⟩ ⟨Nat.le_of_ble_eq_true rfl, Nat.le_of_ble_eq_true rfl⟩
def r_X5_isLinked : Room := { frames := 0, cells := 0, slots := 0, locals := 0 }
def K_X5_isLinked : am_T := WP_X5_isLinked
theorem k_X5_isLinked : am_S false yX5_isLinked (am_ws yX5_isLinked cX5_isLinked 1 (some .boolean)) r_X5_isLinked K_X5_isLinked := s_X5_isLinked ⟨rfl, rfl⟩
def r_X5_marked : Room := { frames := 1, cells := 0, slots := 0, locals := 21 }
def K_X5_marked : am_T := WP_X5_marked K_X1_has
theorem k_X5_marked : am_S false yX5_marked (am_ws yX5_marked cX5_marked 3 (some .boolean)) r_X5_marked K_X5_marked := s_X5_marked k_X1_has ⟨rfl, rfl⟩ ⟨Nat.le_of_ble_eq_true rfl, Nat.le_of_ble_eq_true rfl⟩
def r_X5_isPossible : Room := { frames := 2, cells := 0, slots := 0, locals := 51 }
def K_X5_isPossible : am_T := WP_X5_isPossible K_X5_isDefinedFirst K_X1_wordAt K_X5_maySay K_X5_isLinked K_X5_marked
theorem k_X5_isPossible : am_S false yX5_isPossible (am_ws yX5_isPossible cX5_isPossible 3 (some .boolean)) r_X5_isPossible K_X5_isPossible := s_X5_isPossible k_X5_isDefinedFirst k_X1_wordAt k_X5_maySay k_X5_isLinked k_X5_marked ⟨rfl, rfl⟩ ⟨Nat.le_of_ble_eq_true rfl, Nat.le_of_ble_eq_true rfl⟩ ⟨Nat.le_of_ble_eq_true rfl, Nat.le_of_ble_eq_true rfl⟩ ⟨Nat.le_of_ble_eq_true rfl, Nat.le_of_ble_eq_true rfl⟩ ⟨Nat.le_of_ble_eq_true rfl, Nat.le_of_ble_eq_true rfl⟩ ⟨Nat.le_of_ble_eq_true rfl, Nat.le_of_ble_eq_true rfl⟩
def r_X5_pieceStart : Room := { frames := 1, cells := 0, slots := 0, locals := 20 }
def K_X5_pieceStart : am_T := WP_X5_pieceStart K_X5_isLinked K_X5_isDefinedFirst
theorem k_X5_pieceStart : am_S false yX5_pieceStart (am_ws yX5_pieceStart cX5_pieceStart 3 (some .int)) r_X5_pieceStart K_X5_pieceStart := s_X5_pieceStart k_X5_isLinked k_X5_isDefinedFirst ⟨rfl, rfl⟩ ⟨Nat.le_of_ble_eq_true rfl, Nat.le_of_ble_eq_true rfl⟩ ⟨Nat.le_of_ble_eq_true rfl, Nat.le_of_ble_eq_true rfl⟩
def r_X5_pieceEnd : Room := { frames := 1, cells := 0, slots := 0, locals := 20 }
def K_X5_pieceEnd : am_T := WP_X5_pieceEnd K_X5_isLinked K_X5_isDefinedFirst
theorem k_X5_pieceEnd : am_S false yX5_pieceEnd (am_ws yX5_pieceEnd cX5_pieceEnd 3 (some .int)) r_X5_pieceEnd K_X5_pieceEnd := s_X5_pieceEnd k_X5_isLinked k_X5_isDefinedFirst ⟨rfl, rfl⟩ ⟨Nat.le_of_ble_eq_true rfl, Nat.le_of_ble_eq_true rfl⟩ ⟨Nat.le_of_ble_eq_true rfl, Nat.le_of_ble_eq_true rfl⟩
def r_X8_stretch : Room := { frames := 0, cells := 0, slots := 0, locals := 0 }
def K_X8_stretch : am_T := WP_X8_stretch
theorem k_X8_stretch : am_S false yX8_stretch (am_ws yX8_stretch cX8_stretch 2 (some .int)) r_X8_stretch K_X8_stretch := s_X8_stretch ⟨rfl, rfl⟩
def r_X5_wholeAnswer : Room := { frames := 1, cells := 0, slots := 0, locals := 22 }
def K_X5_wholeAnswer : am_T := WP_X5_wholeAnswer K_X2_size K_X8_stretch
theorem k_X5_wholeAnswer : am_S false yX5_wholeAnswer (am_ws yX5_wholeAnswer cX5_wholeAnswer 1 (some .int)) r_X5_wholeAnswer K_X5_wholeAnswer := s_X5_wholeAnswer k_X2_size k_X8_stretch ⟨rfl, rfl⟩ ⟨Nat.le_of_ble_eq_true rfl, Nat.le_of_ble_eq_true rfl⟩ ⟨Nat.le_of_ble_eq_true rfl, Nat.le_of_ble_eq_true rfl⟩
def r_J6_bitCount_0f7a4 : Room := { frames := 0, cells := 0, slots := 0, locals := 0 }
def K_J6_bitCount_0f7a4 : am_T := WP_J6_bitCount_0f7a4
theorem k_J6_bitCount_0f7a4 : am_S false yJ6_bitCount_0f7a4 (am_ws yJ6_bitCount_0f7a4 cJ6_bitCount_0f7a4 1 (some .int)) r_J6_bitCount_0f7a4 K_J6_bitCount_0f7a4 := s_J6_bitCount_0f7a4 ⟨rfl, rfl⟩
def r_X4_size : Room := { frames := 1, cells := 0, slots := 0, locals := 20 }
def K_X4_size : am_T := WP_X4_size K_J6_bitCount_0f7a4
theorem k_X4_size : am_S false yX4_size (am_ws yX4_size cX4_size 1 (some .int)) r_X4_size K_X4_size := s_X4_size k_J6_bitCount_0f7a4 ⟨rfl, rfl⟩ ⟨Nat.le_of_ble_eq_true rfl, Nat.le_of_ble_eq_true rfl⟩
def r_X5_slotOf : Room := { frames := 2, cells := 0, slots := 0, locals := 40 }
def K_X5_slotOf : am_T := WP_X5_slotOf K_X4_size
theorem k_X5_slotOf : am_S false yX5_slotOf (am_ws yX5_slotOf cX5_slotOf 4 (some .int)) r_X5_slotOf K_X5_slotOf := s_X5_slotOf k_X4_size ⟨rfl, rfl⟩ ⟨Nat.le_of_ble_eq_true rfl, Nat.le_of_ble_eq_true rfl⟩
def r_X6_totalAt : Room := { frames := 1, cells := 0, slots := 0, locals := 21 }
def K_X6_totalAt : am_T := WP_X6_totalAt K_X6_has
theorem k_X6_totalAt : am_S false yX6_totalAt (am_ws yX6_totalAt cX6_totalAt 2 (some .long)) r_X6_totalAt K_X6_totalAt := s_X6_totalAt k_X6_has ⟨rfl, rfl⟩ ⟨Nat.le_of_ble_eq_true rfl, Nat.le_of_ble_eq_true rfl⟩
def r_X6_costAt : Room := { frames := 1, cells := 0, slots := 0, locals := 21 }
def K_X6_costAt : am_T := WP_X6_costAt K_X6_has
theorem k_X6_costAt : am_S false yX6_costAt (am_ws yX6_costAt cX6_costAt 2 (some .int)) r_X6_costAt K_X6_costAt := s_X6_costAt k_X6_has ⟨rfl, rfl⟩ ⟨Nat.le_of_ble_eq_true rfl, Nat.le_of_ble_eq_true rfl⟩
def r_X6_tiesAt : Room := { frames := 1, cells := 0, slots := 0, locals := 21 }
def K_X6_tiesAt : am_T := WP_X6_tiesAt K_X6_has
theorem k_X6_tiesAt : am_S false yX6_tiesAt (am_ws yX6_tiesAt cX6_tiesAt 2 (some .long)) r_X6_tiesAt K_X6_tiesAt := s_X6_tiesAt k_X6_has ⟨rfl, rfl⟩ ⟨Nat.le_of_ble_eq_true rfl, Nat.le_of_ble_eq_true rfl⟩
def r_X6_add : Room := { frames := 1, cells := 0, slots := 0, locals := 21 }
def K_X6_add : am_T := WP_X6_add K_X6_has
theorem k_X6_add : am_S false yX6_add (am_ws yX6_add cX6_add 8 none) r_X6_add K_X6_add := s_X6_add k_X6_has ⟨rfl, rfl⟩ ⟨Nat.le_of_ble_eq_true rfl, Nat.le_of_ble_eq_true rfl⟩
def r_X4_reversed : Room := { frames := 0, cells := 0, slots := 0, locals := 0 }
def K_X4_reversed : am_T := WP_X4_reversed
theorem k_X4_reversed : am_S false yX4_reversed (am_ws yX4_reversed cX4_reversed 1 (some .int)) r_X4_reversed K_X4_reversed := s_X4_reversed ⟨rfl, rfl⟩
def r_X5_addReversed : Room := { frames := 2, cells := 0, slots := 0, locals := 48 }
def K_X5_addReversed : am_T := WP_X5_addReversed K_X6_totalAt K_X6_costAt K_X6_tiesAt K_X6_add
theorem k_X5_addReversed : am_S false yX5_addReversed (am_ws yX5_addReversed cX5_addReversed 4 none) r_X5_addReversed K_X5_addReversed := s_X5_addReversed k_X6_totalAt k_X6_costAt k_X6_tiesAt k_X6_add ⟨rfl, rfl⟩ ⟨Nat.le_of_ble_eq_true rfl, Nat.le_of_ble_eq_true rfl⟩ ⟨Nat.le_of_ble_eq_true rfl, Nat.le_of_ble_eq_true rfl⟩ ⟨Nat.le_of_ble_eq_true rfl, Nat.le_of_ble_eq_true rfl⟩ ⟨Nat.le_of_ble_eq_true rfl, Nat.le_of_ble_eq_true rfl⟩
def r_X4_minus : Room := { frames := 0, cells := 0, slots := 0, locals := 0 }
def K_X4_minus : am_T := WP_X4_minus
theorem k_X4_minus : am_S false yX4_minus (am_ws yX4_minus cX4_minus 2 (some .int)) r_X4_minus K_X4_minus := s_X4_minus ⟨rfl, rfl⟩
def r_X4_firstLetter : Room := { frames := 0, cells := 0, slots := 0, locals := 0 }
def K_X4_firstLetter : am_T := WP_X4_firstLetter
theorem k_X4_firstLetter : am_S false yX4_firstLetter (am_ws yX4_firstLetter cX4_firstLetter 3 (some .int)) r_X4_firstLetter K_X4_firstLetter := s_X4_firstLetter ⟨rfl, rfl⟩
def r_X4_direction : Room := { frames := 0, cells := 0, slots := 0, locals := 0 }
def K_X4_direction : am_T := WP_X4_direction
theorem k_X4_direction : am_S false yX4_direction (am_ws yX4_direction cX4_direction 1 (some .int)) r_X4_direction K_X4_direction := s_X4_direction ⟨rfl, rfl⟩
def r_X5_spelling : Room := { frames := 2, cells := 0, slots := 0, locals := 40 }
def K_X5_spelling : am_T := WP_X5_spelling K_X4_size K_X4_firstLetter K_J6_bitCount_0f7a4 K_X2_at K_X2_with K_X4_minus
theorem k_X5_spelling : am_S false yX5_spelling (am_ws yX5_spelling cX5_spelling 8 (some .long)) r_X5_spelling K_X5_spelling := s_X5_spelling k_X4_size k_X4_firstLetter k_J6_bitCount_0f7a4 k_X2_at k_X2_with k_X4_minus ⟨rfl, rfl⟩ ⟨Nat.le_of_ble_eq_true rfl, Nat.le_of_ble_eq_true rfl⟩ ⟨Nat.le_of_ble_eq_true rfl, Nat.le_of_ble_eq_true rfl⟩ ⟨Nat.le_of_ble_eq_true rfl, Nat.le_of_ble_eq_true rfl⟩ ⟨Nat.le_of_ble_eq_true rfl, Nat.le_of_ble_eq_true rfl⟩ ⟨Nat.le_of_ble_eq_true rfl, Nat.le_of_ble_eq_true rfl⟩ ⟨Nat.le_of_ble_eq_true rfl, Nat.le_of_ble_eq_true rfl⟩
def r_X5_addUnit : Room := { frames := 2, cells := 0, slots := 0, locals := 48 }
def K_X5_addUnit : am_T := WP_X5_addUnit K_X6_add
theorem k_X5_addUnit : am_S false yX5_addUnit (am_ws yX5_addUnit cX5_addUnit 5 none) r_X5_addUnit K_X5_addUnit := s_X5_addUnit k_X6_add ⟨rfl, rfl⟩ ⟨Nat.le_of_ble_eq_true rfl, Nat.le_of_ble_eq_true rfl⟩
def r_X5_addWord : Room := { frames := 3, cells := 0, slots := 0, locals := 72 }
def K_X5_addWord : am_T := WP_X5_addWord K_X5_maySay K_X5_addUnit
theorem k_X5_addWord : am_S false yX5_addWord (am_ws yX5_addWord cX5_addWord 5 none) r_X5_addWord K_X5_addWord := s_X5_addWord k_X5_maySay k_X5_addUnit ⟨rfl, rfl⟩ ⟨Nat.le_of_ble_eq_true rfl, Nat.le_of_ble_eq_true rfl⟩ ⟨Nat.le_of_ble_eq_true rfl, Nat.le_of_ble_eq_true rfl⟩
def r_X5_addAnagrams : Room := { frames := 3, cells := 0, slots := 0, locals := 76 }
def K_X5_addAnagrams : am_T := WP_X5_addAnagrams K_X5_marked K_X1_isAnagram K_X5_addUnit
theorem k_X5_addAnagrams : am_S false yX5_addAnagrams (am_ws yX5_addAnagrams cX5_addAnagrams 6 none) r_X5_addAnagrams K_X5_addAnagrams := s_X5_addAnagrams k_X5_marked k_X1_isAnagram k_X5_addUnit ⟨rfl, rfl⟩ ⟨Nat.le_of_ble_eq_true rfl, Nat.le_of_ble_eq_true rfl⟩ ⟨Nat.le_of_ble_eq_true rfl, Nat.le_of_ble_eq_true rfl⟩ ⟨Nat.le_of_ble_eq_true rfl, Nat.le_of_ble_eq_true rfl⟩
def r_X5_addHidden : Room := { frames := 3, cells := 0, slots := 0, locals := 75 }
def K_X5_addHidden : am_T := WP_X5_addHidden K_X5_marked K_X1_hidingPlaces K_X6_add
theorem k_X5_addHidden : am_S false yX5_addHidden (am_ws yX5_addHidden cX5_addHidden 7 none) r_X5_addHidden K_X5_addHidden := s_X5_addHidden k_X5_marked k_X1_hidingPlaces k_X6_add ⟨rfl, rfl⟩ ⟨Nat.le_of_ble_eq_true rfl, Nat.le_of_ble_eq_true rfl⟩ ⟨Nat.le_of_ble_eq_true rfl, Nat.le_of_ble_eq_true rfl⟩ ⟨Nat.le_of_ble_eq_true rfl, Nat.le_of_ble_eq_true rfl⟩
def r_X5_addShortened : Room := { frames := 3, cells := 0, slots := 0, locals := 72 }
def K_X5_addShortened : am_T := WP_X5_addShortened K_X5_marked K_X2_shortened K_X5_addUnit
theorem k_X5_addShortened : am_S false yX5_addShortened (am_ws yX5_addShortened cX5_addShortened 10 none) r_X5_addShortened K_X5_addShortened := s_X5_addShortened k_X5_marked k_X2_shortened k_X5_addUnit ⟨rfl, rfl⟩ ⟨Nat.le_of_ble_eq_true rfl, Nat.le_of_ble_eq_true rfl⟩ ⟨Nat.le_of_ble_eq_true rfl, Nat.le_of_ble_eq_true rfl⟩ ⟨Nat.le_of_ble_eq_true rfl, Nat.le_of_ble_eq_true rfl⟩
def r_X5_addInitials : Room := { frames := 3, cells := 0, slots := 0, locals := 72 }
def K_X5_addInitials : am_T := WP_X5_addInitials K_X5_marked K_X1_initials K_X5_addUnit
theorem k_X5_addInitials : am_S false yX5_addInitials (am_ws yX5_addInitials cX5_addInitials 6 none) r_X5_addInitials K_X5_addInitials := s_X5_addInitials k_X5_marked k_X1_initials k_X5_addUnit ⟨rfl, rfl⟩ ⟨Nat.le_of_ble_eq_true rfl, Nat.le_of_ble_eq_true rfl⟩ ⟨Nat.le_of_ble_eq_true rfl, Nat.le_of_ble_eq_true rfl⟩ ⟨Nat.le_of_ble_eq_true rfl, Nat.le_of_ble_eq_true rfl⟩
def r_X5_addReversals (d : Nat) : Room := { frames := 3 + 10 * d, cells := 0, slots := 0, locals := 71 + 400 * d }
def r_X5_addInside (d : Nat) : Room := { frames := 2 + 10 * d, cells := 0, slots := 0, locals := 48 + 400 * d }
def r_X5_addInsides (d : Nat) : Room := { frames := 3 + 10 * d, cells := 0, slots := 0, locals := 78 + 400 * d }
def r_X5_addContainers (d : Nat) : Room := { frames := 4 + 10 * d, cells := 0, slots := 0, locals := 111 + 400 * d }
def r_X5_unit (d : Nat) : Room := { frames := 5 + 10 * d, cells := 0, slots := 0, locals := 137 + 400 * d }
def r_X5_addPieces (d : Nat) : Room := { frames := 6 + 10 * d, cells := 0, slots := 0, locals := 163 + 400 * d }
def r_X5_piece (d : Nat) : Room := { frames := 7 + 10 * d, cells := 0, slots := 0, locals := 195 + 400 * d }
def Q_X5_addReversals (kp : am_T) : am_T := WP_X5_addReversals K_X4_size K_X5_marked K_X4_reversed kp K_X5_addReversed
def Q_X5_addInside (kp : am_T) : am_T := WP_X5_addInside K_X4_minus kp K_X6_totalAt K_X6_costAt K_X6_tiesAt K_X6_add
def Q_X5_addInsides (kp : am_T) : am_T := WP_X5_addInsides K_X4_size K_X4_firstLetter K_X4_minus K_X4_direction (Q_X5_addInside kp)
def Q_X5_addContainers (kp : am_T) : am_T := WP_X5_addContainers K_X5_marked (Q_X5_addInsides kp)
def Q_X5_unit (kp : am_T) : am_T := WP_X5_unit K_X5_slotOf K_X6_opens K_X5_spelling K_X5_addWord (Q_X5_addReversals kp) K_X5_addAnagrams (Q_X5_addContainers kp) K_X5_addHidden K_X5_addShortened K_X5_addInitials
def Q_X5_addPieces (kp : am_T) : am_T := WP_X5_addPieces K_X4_size K_X4_direction K_X4_firstLetter K_X4_minus (Q_X5_unit kp) K_X6_totalAt kp K_X6_costAt K_X6_tiesAt K_X6_add
def Q_X5_piece (kp : am_T) : am_T := WP_X5_piece K_X5_slotOf K_X6_opens (Q_X5_unit kp) K_X6_totalAt K_X6_costAt K_X6_tiesAt K_X6_add (Q_X5_addPieces kp)
def K_X5_piece : Nat → am_T
  | 0 => fun _ _ _ => False
  | d + 1 => Q_X5_piece (K_X5_piece d)
def K_X5_addReversals : Nat → am_T
  | 0 => fun _ _ _ => False
  | d + 1 => Q_X5_addReversals (K_X5_piece d)
def K_X5_addInside : Nat → am_T
  | 0 => fun _ _ _ => False
  | d + 1 => Q_X5_addInside (K_X5_piece d)
def K_X5_addInsides : Nat → am_T
  | 0 => fun _ _ _ => False
  | d + 1 => Q_X5_addInsides (K_X5_piece d)
def K_X5_addContainers : Nat → am_T
  | 0 => fun _ _ _ => False
  | d + 1 => Q_X5_addContainers (K_X5_piece d)
def K_X5_unit : Nat → am_T
  | 0 => fun _ _ _ => False
  | d + 1 => Q_X5_unit (K_X5_piece d)
def K_X5_addPieces : Nat → am_T
  | 0 => fun _ _ _ => False
  | d + 1 => Q_X5_addPieces (K_X5_piece d)
theorem q_X5_addReversals {kp : am_T} {d : Nat} (hk : am_S false yX5_piece (am_ws yX5_piece cX5_piece 6 (some .int)) (r_X5_piece d) kp) : am_S false yX5_addReversals (am_ws yX5_addReversals cX5_addReversals 5 none) (r_X5_addReversals (d + 1)) (Q_X5_addReversals kp) := s_X5_addReversals k_X4_size k_X5_marked k_X4_reversed hk k_X5_addReversed ⟨rfl, rfl⟩ ⟨by simp only [r_X5_addReversals, r_X4_size]; omega, by simp only [r_X5_addReversals, r_X4_size]; omega⟩ ⟨by simp only [r_X5_addReversals, r_X5_marked]; omega, by simp only [r_X5_addReversals, r_X5_marked]; omega⟩ ⟨by simp only [r_X5_addReversals, r_X4_reversed]; omega, by simp only [r_X5_addReversals, r_X4_reversed]; omega⟩ ⟨by simp only [r_X5_addReversals, r_X5_piece]; omega, by simp only [r_X5_addReversals, r_X5_piece]; omega⟩ ⟨by simp only [r_X5_addReversals, r_X5_addReversed]; omega, by simp only [r_X5_addReversals, r_X5_addReversed]; omega⟩
theorem q_X5_addInside {kp : am_T} {d : Nat} (hk : am_S false yX5_piece (am_ws yX5_piece cX5_piece 6 (some .int)) (r_X5_piece d) kp) : am_S false yX5_addInside (am_ws yX5_addInside cX5_addInside 11 none) (r_X5_addInside (d + 1)) (Q_X5_addInside kp) := s_X5_addInside k_X4_minus hk k_X6_totalAt k_X6_costAt k_X6_tiesAt k_X6_add ⟨rfl, rfl⟩ ⟨by simp only [r_X5_addInside, r_X4_minus]; omega, by simp only [r_X5_addInside, r_X4_minus]; omega⟩ ⟨by simp only [r_X5_addInside, r_X5_piece]; omega, by simp only [r_X5_addInside, r_X5_piece]; omega⟩ ⟨by simp only [r_X5_addInside, r_X6_totalAt]; omega, by simp only [r_X5_addInside, r_X6_totalAt]; omega⟩ ⟨by simp only [r_X5_addInside, r_X6_costAt]; omega, by simp only [r_X5_addInside, r_X6_costAt]; omega⟩ ⟨by simp only [r_X5_addInside, r_X6_tiesAt]; omega, by simp only [r_X5_addInside, r_X6_tiesAt]; omega⟩ ⟨by simp only [r_X5_addInside, r_X6_add]; omega, by simp only [r_X5_addInside, r_X6_add]; omega⟩
theorem q_X5_addInsides {kp : am_T} {d : Nat} (hk : am_S false yX5_piece (am_ws yX5_piece cX5_piece 6 (some .int)) (r_X5_piece d) kp) : am_S false yX5_addInsides (am_ws yX5_addInsides cX5_addInsides 14 none) (r_X5_addInsides (d + 1)) (Q_X5_addInsides kp) := s_X5_addInsides k_X4_size k_X4_firstLetter k_X4_minus k_X4_direction (q_X5_addInside hk) ⟨rfl, rfl⟩ ⟨by simp only [r_X5_addInsides, r_X4_size]; omega, by simp only [r_X5_addInsides, r_X4_size]; omega⟩ ⟨by simp only [r_X5_addInsides, r_X4_firstLetter]; omega, by simp only [r_X5_addInsides, r_X4_firstLetter]; omega⟩ ⟨by simp only [r_X5_addInsides, r_X4_minus]; omega, by simp only [r_X5_addInsides, r_X4_minus]; omega⟩ ⟨by simp only [r_X5_addInsides, r_X4_direction]; omega, by simp only [r_X5_addInsides, r_X4_direction]; omega⟩ ⟨by simp only [r_X5_addInsides, r_X5_addInside]; omega, by simp only [r_X5_addInsides, r_X5_addInside]; omega⟩
theorem q_X5_addContainers {kp : am_T} {d : Nat} (hk : am_S false yX5_piece (am_ws yX5_piece cX5_piece 6 (some .int)) (r_X5_piece d) kp) : am_S false yX5_addContainers (am_ws yX5_addContainers cX5_addContainers 7 none) (r_X5_addContainers (d + 1)) (Q_X5_addContainers kp) := s_X5_addContainers k_X5_marked (q_X5_addInsides hk) ⟨rfl, rfl⟩ ⟨by simp only [r_X5_addContainers, r_X5_marked]; omega, by simp only [r_X5_addContainers, r_X5_marked]; omega⟩ ⟨by simp only [r_X5_addContainers, r_X5_addInsides]; omega, by simp only [r_X5_addContainers, r_X5_addInsides]; omega⟩
theorem q_X5_unit {kp : am_T} {d : Nat} (hk : am_S false yX5_piece (am_ws yX5_piece cX5_piece 6 (some .int)) (r_X5_piece d) kp) : am_S false yX5_unit (am_ws yX5_unit cX5_unit 7 (some .int)) (r_X5_unit (d + 1)) (Q_X5_unit kp) := s_X5_unit k_X5_slotOf k_X6_opens k_X5_spelling k_X5_addWord (q_X5_addReversals hk) k_X5_addAnagrams (q_X5_addContainers hk) k_X5_addHidden k_X5_addShortened k_X5_addInitials ⟨rfl, rfl⟩ ⟨by simp only [r_X5_unit, r_X5_slotOf]; omega, by simp only [r_X5_unit, r_X5_slotOf]; omega⟩ ⟨by simp only [r_X5_unit, r_X6_opens]; omega, by simp only [r_X5_unit, r_X6_opens]; omega⟩ ⟨by simp only [r_X5_unit, r_X5_spelling]; omega, by simp only [r_X5_unit, r_X5_spelling]; omega⟩ ⟨by simp only [r_X5_unit, r_X5_addWord]; omega, by simp only [r_X5_unit, r_X5_addWord]; omega⟩ ⟨by simp only [r_X5_unit, r_X5_addReversals]; omega, by simp only [r_X5_unit, r_X5_addReversals]; omega⟩ ⟨by simp only [r_X5_unit, r_X5_addAnagrams]; omega, by simp only [r_X5_unit, r_X5_addAnagrams]; omega⟩ ⟨by simp only [r_X5_unit, r_X5_addContainers]; omega, by simp only [r_X5_unit, r_X5_addContainers]; omega⟩ ⟨by simp only [r_X5_unit, r_X5_addHidden]; omega, by simp only [r_X5_unit, r_X5_addHidden]; omega⟩ ⟨by simp only [r_X5_unit, r_X5_addShortened]; omega, by simp only [r_X5_unit, r_X5_addShortened]; omega⟩ ⟨by simp only [r_X5_unit, r_X5_addInitials]; omega, by simp only [r_X5_unit, r_X5_addInitials]; omega⟩
theorem q_X5_addPieces {kp : am_T} {d : Nat} (hk : am_S false yX5_piece (am_ws yX5_piece cX5_piece 6 (some .int)) (r_X5_piece d) kp) : am_S false yX5_addPieces (am_ws yX5_addPieces cX5_addPieces 13 none) (r_X5_addPieces (d + 1)) (Q_X5_addPieces kp) := s_X5_addPieces k_X4_size k_X4_direction k_X4_firstLetter k_X4_minus (q_X5_unit hk) k_X6_totalAt hk k_X6_costAt k_X6_tiesAt k_X6_add ⟨rfl, rfl⟩ ⟨by simp only [r_X5_addPieces, r_X4_size]; omega, by simp only [r_X5_addPieces, r_X4_size]; omega⟩ ⟨by simp only [r_X5_addPieces, r_X4_direction]; omega, by simp only [r_X5_addPieces, r_X4_direction]; omega⟩ ⟨by simp only [r_X5_addPieces, r_X4_firstLetter]; omega, by simp only [r_X5_addPieces, r_X4_firstLetter]; omega⟩ ⟨by simp only [r_X5_addPieces, r_X4_minus]; omega, by simp only [r_X5_addPieces, r_X4_minus]; omega⟩ ⟨by simp only [r_X5_addPieces, r_X5_unit]; omega, by simp only [r_X5_addPieces, r_X5_unit]; omega⟩ ⟨by simp only [r_X5_addPieces, r_X6_totalAt]; omega, by simp only [r_X5_addPieces, r_X6_totalAt]; omega⟩ ⟨by simp only [r_X5_addPieces, r_X5_piece]; omega, by simp only [r_X5_addPieces, r_X5_piece]; omega⟩ ⟨by simp only [r_X5_addPieces, r_X6_costAt]; omega, by simp only [r_X5_addPieces, r_X6_costAt]; omega⟩ ⟨by simp only [r_X5_addPieces, r_X6_tiesAt]; omega, by simp only [r_X5_addPieces, r_X6_tiesAt]; omega⟩ ⟨by simp only [r_X5_addPieces, r_X6_add]; omega, by simp only [r_X5_addPieces, r_X6_add]; omega⟩
theorem q_X5_piece {kp : am_T} {d : Nat} (hk : am_S false yX5_piece (am_ws yX5_piece cX5_piece 6 (some .int)) (r_X5_piece d) kp) : am_S false yX5_piece (am_ws yX5_piece cX5_piece 6 (some .int)) (r_X5_piece (d + 1)) (Q_X5_piece kp) := s_X5_piece k_X5_slotOf k_X6_opens (q_X5_unit hk) k_X6_totalAt k_X6_costAt k_X6_tiesAt k_X6_add (q_X5_addPieces hk) ⟨rfl, rfl⟩ ⟨by simp only [r_X5_piece, r_X5_slotOf]; omega, by simp only [r_X5_piece, r_X5_slotOf]; omega⟩ ⟨by simp only [r_X5_piece, r_X6_opens]; omega, by simp only [r_X5_piece, r_X6_opens]; omega⟩ ⟨by simp only [r_X5_piece, r_X5_unit]; omega, by simp only [r_X5_piece, r_X5_unit]; omega⟩ ⟨by simp only [r_X5_piece, r_X6_totalAt]; omega, by simp only [r_X5_piece, r_X6_totalAt]; omega⟩ ⟨by simp only [r_X5_piece, r_X6_costAt]; omega, by simp only [r_X5_piece, r_X6_costAt]; omega⟩ ⟨by simp only [r_X5_piece, r_X6_tiesAt]; omega, by simp only [r_X5_piece, r_X6_tiesAt]; omega⟩ ⟨by simp only [r_X5_piece, r_X6_add]; omega, by simp only [r_X5_piece, r_X6_add]; omega⟩ ⟨by simp only [r_X5_piece, r_X5_addPieces]; omega, by simp only [r_X5_piece, r_X5_addPieces]; omega⟩
theorem am_S0 {y : MethodName} {ws : List Cond} {rm : Room} (h : rm.cells = 0 ∧ rm.slots = 0) : am_S false y ws rm (fun _ _ _ => False) := ⟨fun _ => h, fun _ _ _ _ _ _ _ q => q.elim⟩
theorem k_X5_piece : ∀ d, am_S false yX5_piece (am_ws yX5_piece cX5_piece 6 (some .int)) (r_X5_piece d) (K_X5_piece d)
  | 0 => am_S0 ⟨rfl, rfl⟩
  | d + 1 => q_X5_piece (k_X5_piece d)
theorem k_X5_addReversals : ∀ d, am_S false yX5_addReversals (am_ws yX5_addReversals cX5_addReversals 5 none) (r_X5_addReversals d) (K_X5_addReversals d)
  | 0 => am_S0 ⟨rfl, rfl⟩
  | d + 1 => q_X5_addReversals (k_X5_piece d)
theorem k_X5_addInside : ∀ d, am_S false yX5_addInside (am_ws yX5_addInside cX5_addInside 11 none) (r_X5_addInside d) (K_X5_addInside d)
  | 0 => am_S0 ⟨rfl, rfl⟩
  | d + 1 => q_X5_addInside (k_X5_piece d)
theorem k_X5_addInsides : ∀ d, am_S false yX5_addInsides (am_ws yX5_addInsides cX5_addInsides 14 none) (r_X5_addInsides d) (K_X5_addInsides d)
  | 0 => am_S0 ⟨rfl, rfl⟩
  | d + 1 => q_X5_addInsides (k_X5_piece d)
theorem k_X5_addContainers : ∀ d, am_S false yX5_addContainers (am_ws yX5_addContainers cX5_addContainers 7 none) (r_X5_addContainers d) (K_X5_addContainers d)
  | 0 => am_S0 ⟨rfl, rfl⟩
  | d + 1 => q_X5_addContainers (k_X5_piece d)
theorem k_X5_unit : ∀ d, am_S false yX5_unit (am_ws yX5_unit cX5_unit 7 (some .int)) (r_X5_unit d) (K_X5_unit d)
  | 0 => am_S0 ⟨rfl, rfl⟩
  | d + 1 => q_X5_unit (k_X5_piece d)
theorem k_X5_addPieces : ∀ d, am_S false yX5_addPieces (am_ws yX5_addPieces cX5_addPieces 13 none) (r_X5_addPieces d) (K_X5_addPieces d)
  | 0 => am_S0 ⟨rfl, rfl⟩
  | d + 1 => q_X5_addPieces (k_X5_piece d)
def r_X5_parse : Room := { frames := 78, cells := 0, slots := 0, locals := 3020 }
def K_X5_parse : am_T := WP_X5_parse K_X6_opens K_X5_isPossible K_X5_pieceStart K_X5_pieceEnd K_X5_wholeAnswer (K_X5_piece 7) K_X6_costAt K_X5_isLinked K_X6_totalAt K_X6_tiesAt K_X6_add
theorem k_X5_parse : am_S false yX5_parse (am_ws yX5_parse cX5_parse 4 (some .int)) r_X5_parse K_X5_parse := s_X5_parse k_X6_opens k_X5_isPossible k_X5_pieceStart k_X5_pieceEnd k_X5_wholeAnswer (k_X5_piece 7) k_X6_costAt k_X5_isLinked k_X6_totalAt k_X6_tiesAt k_X6_add ⟨rfl, rfl⟩ ⟨Nat.le_of_ble_eq_true rfl, Nat.le_of_ble_eq_true rfl⟩ ⟨Nat.le_of_ble_eq_true rfl, Nat.le_of_ble_eq_true rfl⟩ ⟨Nat.le_of_ble_eq_true rfl, Nat.le_of_ble_eq_true rfl⟩ ⟨Nat.le_of_ble_eq_true rfl, Nat.le_of_ble_eq_true rfl⟩ ⟨Nat.le_of_ble_eq_true rfl, Nat.le_of_ble_eq_true rfl⟩ ⟨Nat.le_of_ble_eq_true rfl, Nat.le_of_ble_eq_true rfl⟩ ⟨Nat.le_of_ble_eq_true rfl, Nat.le_of_ble_eq_true rfl⟩ ⟨Nat.le_of_ble_eq_true rfl, Nat.le_of_ble_eq_true rfl⟩ ⟨Nat.le_of_ble_eq_true rfl, Nat.le_of_ble_eq_true rfl⟩ ⟨Nat.le_of_ble_eq_true rfl, Nat.le_of_ble_eq_true rfl⟩ ⟨Nat.le_of_ble_eq_true rfl, Nat.le_of_ble_eq_true rfl⟩
def r_X6_choiceAt : Room := { frames := 1, cells := 0, slots := 0, locals := 21 }
def K_X6_choiceAt : am_T := WP_X6_choiceAt K_X6_has
theorem k_X6_choiceAt : am_S false yX6_choiceAt (am_ws yX6_choiceAt cX6_choiceAt 2 (some .int)) r_X6_choiceAt K_X6_choiceAt := s_X6_choiceAt k_X6_has ⟨rfl, rfl⟩ ⟨Nat.le_of_ble_eq_true rfl, Nat.le_of_ble_eq_true rfl⟩
def r_X3_put : Room := { frames := 0, cells := 0, slots := 0, locals := 0 }
def K_X3_put : am_T := WP_X3_put
theorem k_X3_put : am_S false yX3_put (am_ws yX3_put cX3_put 2 none) r_X3_put K_X3_put := s_X3_put ⟨rfl, rfl⟩
def r_X3_putLetters : Room := { frames := 1, cells := 0, slots := 0, locals := 22 }
def K_X3_putLetters : am_T := WP_X3_putLetters K_X2_size K_X2_at K_X3_put
theorem k_X3_putLetters : am_S false yX3_putLetters (am_ws yX3_putLetters cX3_putLetters 5 none) r_X3_putLetters K_X3_putLetters := s_X3_putLetters k_X2_size k_X2_at k_X3_put ⟨rfl, rfl⟩ ⟨Nat.le_of_ble_eq_true rfl, Nat.le_of_ble_eq_true rfl⟩ ⟨Nat.le_of_ble_eq_true rfl, Nat.le_of_ble_eq_true rfl⟩ ⟨Nat.le_of_ble_eq_true rfl, Nat.le_of_ble_eq_true rfl⟩
def r_X3_putWords : Room := { frames := 2, cells := 0, slots := 0, locals := 46 }
def K_X3_putWords : am_T := WP_X3_putWords K_X1_wordAt K_X3_putLetters
theorem k_X3_putWords : am_S false yX3_putWords (am_ws yX3_putWords cX3_putWords 4 none) r_X3_putWords K_X3_putWords := s_X3_putWords k_X1_wordAt k_X3_putLetters ⟨rfl, rfl⟩ ⟨Nat.le_of_ble_eq_true rfl, Nat.le_of_ble_eq_true rfl⟩ ⟨Nat.le_of_ble_eq_true rfl, Nat.le_of_ble_eq_true rfl⟩
def r_X3_putWhole : Room := { frames := 3, cells := 0, slots := 0, locals := 69 }
def K_X3_putWhole : am_T := WP_X3_putWhole K_X3_put K_X3_putWords K_X0_has K_X3_putLetters
theorem k_X3_putWhole : am_S false yX3_putWhole (am_ws yX3_putWhole cX3_putWhole 3 none) r_X3_putWhole K_X3_putWhole := s_X3_putWhole k_X3_put k_X3_putWords k_X0_has k_X3_putLetters ⟨rfl, rfl⟩ ⟨Nat.le_of_ble_eq_true rfl, Nat.le_of_ble_eq_true rfl⟩ ⟨Nat.le_of_ble_eq_true rfl, Nat.le_of_ble_eq_true rfl⟩ ⟨Nat.le_of_ble_eq_true rfl, Nat.le_of_ble_eq_true rfl⟩ ⟨Nat.le_of_ble_eq_true rfl, Nat.le_of_ble_eq_true rfl⟩
def r_X8_signOf : Room := { frames := 4, cells := 0, slots := 0, locals := 85 }
def K_X8_signOf : am_T := WP_X8_signOf K_J0_length_8abf5 K_J0_charAt_5068e
theorem k_X8_signOf : am_S false yX8_signOf (am_ws yX8_signOf cX8_signOf 2 (some .int)) r_X8_signOf K_X8_signOf := s_X8_signOf k_J0_length_8abf5 k_J0_charAt_5068e ⟨rfl, rfl⟩ ⟨Nat.le_of_ble_eq_true rfl, Nat.le_of_ble_eq_true rfl⟩ ⟨Nat.le_of_ble_eq_true rfl, Nat.le_of_ble_eq_true rfl⟩
def r_X3_putContainer (d : Nat) : Room := { frames := 69 + 10 * d, cells := 0, slots := 0, locals := 2648 + 400 * d }
def r_X3_putInside (d : Nat) : Room := { frames := 70 + 10 * d, cells := 0, slots := 0, locals := 2676 + 400 * d }
def r_X3_putUnit (d : Nat) : Room := { frames := 76 + 10 * d, cells := 0, slots := 0, locals := 2963 + 400 * d }
def r_X3_putPiece (d : Nat) : Room := { frames := 78 + 10 * d, cells := 0, slots := 0, locals := 3020 + 400 * d }
def Q_X3_putContainer (kp : am_T) : am_T := WP_X3_putContainer K_X4_minus kp K_X3_put
def Q_X3_putInside (kp : am_T) : am_T := WP_X3_putInside K_X4_reversed kp K_X3_putWords (Q_X3_putContainer kp) K_X3_putWhole
def Q_X3_putUnit (kp : am_T) : am_T := WP_X3_putUnit (K_X5_unit 7) K_X6_choiceAt K_X8_signOf K_X3_put (Q_X3_putInside kp) K_X5_spelling K_X3_putLetters
def Q_X3_putPiece (kp : am_T) : am_T := WP_X3_putPiece (K_X5_piece 7) K_X6_choiceAt K_X3_put (Q_X3_putUnit kp) K_X4_minus
def K_X3_putPiece : Nat → am_T
  | 0 => fun _ _ _ => False
  | d + 1 => Q_X3_putPiece (K_X3_putPiece d)
def K_X3_putContainer : Nat → am_T
  | 0 => fun _ _ _ => False
  | d + 1 => Q_X3_putContainer (K_X3_putPiece d)
def K_X3_putInside : Nat → am_T
  | 0 => fun _ _ _ => False
  | d + 1 => Q_X3_putInside (K_X3_putPiece d)
def K_X3_putUnit : Nat → am_T
  | 0 => fun _ _ _ => False
  | d + 1 => Q_X3_putUnit (K_X3_putPiece d)
theorem q_X3_putContainer {kp : am_T} {d : Nat} (hk : am_S false yX3_putPiece (am_ws yX3_putPiece cX3_putPiece 9 none) (r_X3_putPiece d) kp) : am_S false yX3_putContainer (am_ws yX3_putContainer cX3_putContainer 9 none) (r_X3_putContainer (d + 1)) (Q_X3_putContainer kp) := s_X3_putContainer k_X4_minus hk k_X3_put ⟨rfl, rfl⟩ ⟨by simp only [r_X3_putContainer, r_X4_minus]; omega, by simp only [r_X3_putContainer, r_X4_minus]; omega⟩ ⟨by simp only [r_X3_putContainer, r_X3_putPiece]; omega, by simp only [r_X3_putContainer, r_X3_putPiece]; omega⟩ ⟨by simp only [r_X3_putContainer, r_X3_put]; omega, by simp only [r_X3_putContainer, r_X3_put]; omega⟩
theorem q_X3_putInside {kp : am_T} {d : Nat} (hk : am_S false yX3_putPiece (am_ws yX3_putPiece cX3_putPiece 9 none) (r_X3_putPiece d) kp) : am_S false yX3_putInside (am_ws yX3_putInside cX3_putInside 6 none) (r_X3_putInside (d + 1)) (Q_X3_putInside kp) := s_X3_putInside k_X4_reversed hk k_X3_putWords (q_X3_putContainer hk) k_X3_putWhole ⟨rfl, rfl⟩ ⟨by simp only [r_X3_putInside, r_X4_reversed]; omega, by simp only [r_X3_putInside, r_X4_reversed]; omega⟩ ⟨by simp only [r_X3_putInside, r_X3_putPiece]; omega, by simp only [r_X3_putInside, r_X3_putPiece]; omega⟩ ⟨by simp only [r_X3_putInside, r_X3_putWords]; omega, by simp only [r_X3_putInside, r_X3_putWords]; omega⟩ ⟨by simp only [r_X3_putInside, r_X3_putContainer]; omega, by simp only [r_X3_putInside, r_X3_putContainer]; omega⟩ ⟨by simp only [r_X3_putInside, r_X3_putWhole]; omega, by simp only [r_X3_putInside, r_X3_putWhole]; omega⟩
theorem q_X3_putUnit {kp : am_T} {d : Nat} (hk : am_S false yX3_putPiece (am_ws yX3_putPiece cX3_putPiece 9 none) (r_X3_putPiece d) kp) : am_S false yX3_putUnit (am_ws yX3_putUnit cX3_putUnit 6 none) (r_X3_putUnit (d + 1)) (Q_X3_putUnit kp) := s_X3_putUnit (k_X5_unit 7) k_X6_choiceAt k_X8_signOf k_X3_put (q_X3_putInside hk) k_X5_spelling k_X3_putLetters ⟨rfl, rfl⟩ ⟨by simp only [r_X3_putUnit, r_X5_unit]; omega, by simp only [r_X3_putUnit, r_X5_unit]; omega⟩ ⟨by simp only [r_X3_putUnit, r_X6_choiceAt]; omega, by simp only [r_X3_putUnit, r_X6_choiceAt]; omega⟩ ⟨by simp only [r_X3_putUnit, r_X8_signOf]; omega, by simp only [r_X3_putUnit, r_X8_signOf]; omega⟩ ⟨by simp only [r_X3_putUnit, r_X3_put]; omega, by simp only [r_X3_putUnit, r_X3_put]; omega⟩ ⟨by simp only [r_X3_putUnit, r_X3_putInside]; omega, by simp only [r_X3_putUnit, r_X3_putInside]; omega⟩ ⟨by simp only [r_X3_putUnit, r_X5_spelling]; omega, by simp only [r_X3_putUnit, r_X5_spelling]; omega⟩ ⟨by simp only [r_X3_putUnit, r_X3_putLetters]; omega, by simp only [r_X3_putUnit, r_X3_putLetters]; omega⟩
theorem q_X3_putPiece {kp : am_T} {d : Nat} (hk : am_S false yX3_putPiece (am_ws yX3_putPiece cX3_putPiece 9 none) (r_X3_putPiece d) kp) : am_S false yX3_putPiece (am_ws yX3_putPiece cX3_putPiece 9 none) (r_X3_putPiece (d + 1)) (Q_X3_putPiece kp) := s_X3_putPiece (k_X5_piece 7) k_X6_choiceAt k_X3_put (q_X3_putUnit hk) k_X4_minus ⟨rfl, rfl⟩ ⟨by simp only [r_X3_putPiece, r_X5_piece]; omega, by simp only [r_X3_putPiece, r_X5_piece]; omega⟩ ⟨by simp only [r_X3_putPiece, r_X6_choiceAt]; omega, by simp only [r_X3_putPiece, r_X6_choiceAt]; omega⟩ ⟨by simp only [r_X3_putPiece, r_X3_put]; omega, by simp only [r_X3_putPiece, r_X3_put]; omega⟩ ⟨by simp only [r_X3_putPiece, r_X3_putUnit]; omega, by simp only [r_X3_putPiece, r_X3_putUnit]; omega⟩ ⟨by simp only [r_X3_putPiece, r_X4_minus]; omega, by simp only [r_X3_putPiece, r_X4_minus]; omega⟩

theorem k_X3_putPiece : ∀ d, am_S false yX3_putPiece (am_ws yX3_putPiece cX3_putPiece 9 none) (r_X3_putPiece d) (K_X3_putPiece d)
  | 0 => am_S0 ⟨rfl, rfl⟩
  | d + 1 => q_X3_putPiece (k_X3_putPiece d)
theorem k_X3_putContainer : ∀ d, am_S false yX3_putContainer (am_ws yX3_putContainer cX3_putContainer 9 none) (r_X3_putContainer d) (K_X3_putContainer d)
  | 0 => am_S0 ⟨rfl, rfl⟩
  | d + 1 => q_X3_putContainer (k_X3_putPiece d)
theorem k_X3_putInside : ∀ d, am_S false yX3_putInside (am_ws yX3_putInside cX3_putInside 6 none) (r_X3_putInside d) (K_X3_putInside d)
  | 0 => am_S0 ⟨rfl, rfl⟩
  | d + 1 => q_X3_putInside (k_X3_putPiece d)
theorem k_X3_putUnit : ∀ d, am_S false yX3_putUnit (am_ws yX3_putUnit cX3_putUnit 6 none) (r_X3_putUnit d) (K_X3_putUnit d)
  | 0 => am_S0 ⟨rfl, rfl⟩
  | d + 1 => q_X3_putUnit (k_X3_putPiece d)
def r_X3_make : Room := { frames := 149, cells := 0, slots := 0, locals := 5848 }
def K_X3_make : am_T := WP_X3_make K_X5_stampNow K_X5_parse K_X6_choiceAt K_X5_isDefinedFirst K_X3_put K_X3_putWords K_X5_isLinked K_X5_pieceStart K_X5_pieceEnd K_X5_wholeAnswer (K_X3_putPiece 7)
theorem k_X3_make : am_S false yX3_make (am_ws yX3_make cX3_make 4 none) r_X3_make K_X3_make := s_X3_make k_X5_stampNow k_X5_parse k_X6_choiceAt k_X5_isDefinedFirst k_X3_put k_X3_putWords k_X5_isLinked k_X5_pieceStart k_X5_pieceEnd k_X5_wholeAnswer (k_X3_putPiece 7) ⟨rfl, rfl⟩ ⟨Nat.le_of_ble_eq_true rfl, Nat.le_of_ble_eq_true rfl⟩ ⟨Nat.le_of_ble_eq_true rfl, Nat.le_of_ble_eq_true rfl⟩ ⟨Nat.le_of_ble_eq_true rfl, Nat.le_of_ble_eq_true rfl⟩ ⟨Nat.le_of_ble_eq_true rfl, Nat.le_of_ble_eq_true rfl⟩ ⟨Nat.le_of_ble_eq_true rfl, Nat.le_of_ble_eq_true rfl⟩ ⟨Nat.le_of_ble_eq_true rfl, Nat.le_of_ble_eq_true rfl⟩ ⟨Nat.le_of_ble_eq_true rfl, Nat.le_of_ble_eq_true rfl⟩ ⟨Nat.le_of_ble_eq_true rfl, Nat.le_of_ble_eq_true rfl⟩ ⟨Nat.le_of_ble_eq_true rfl, Nat.le_of_ble_eq_true rfl⟩ ⟨Nat.le_of_ble_eq_true rfl, Nat.le_of_ble_eq_true rfl⟩ ⟨Nat.le_of_ble_eq_true rfl, Nat.le_of_ble_eq_true rfl⟩
def r_X5_marksOf : Room := { frames := 0, cells := 0, slots := 0, locals := 0 }
def K_X5_marksOf : am_T := WP_X5_marksOf
theorem k_X5_marksOf : am_S false yX5_marksOf (am_ws yX5_marksOf cX5_marksOf 5 (some .int)) r_X5_marksOf K_X5_marksOf := s_X5_marksOf ⟨rfl, rfl⟩
def r_X5_begin : Room := { frames := 1, cells := 0, slots := 0, locals := 24 }
def K_X5_begin : am_T := WP_X5_begin K_X5_marksOf
theorem k_X5_begin : am_S false yX5_begin (am_ws yX5_begin cX5_begin 6 none) r_X5_begin K_X5_begin := s_X5_begin k_X5_marksOf ⟨rfl, rfl⟩ ⟨Nat.le_of_ble_eq_true rfl, Nat.le_of_ble_eq_true rfl⟩
def r_X5_supposeNothing : Room := { frames := 2, cells := 0, slots := 0, locals := 49 }
def K_X5_supposeNothing : am_T := WP_X5_supposeNothing K_X5_begin
theorem k_X5_supposeNothing : am_S false yX5_supposeNothing (am_ws yX5_supposeNothing cX5_supposeNothing 3 none) r_X5_supposeNothing K_X5_supposeNothing := s_X5_supposeNothing k_X5_begin ⟨rfl, rfl⟩ ⟨Nat.le_of_ble_eq_true rfl, Nat.le_of_ble_eq_true rfl⟩
def r_X5_renew : Room := { frames := 3, cells := 0, slots := 0, locals := 71 }
def K_X5_renew : am_T := WP_X5_renew K_X5_supposeNothing
theorem k_X5_renew : am_S false yX5_renew (am_ws yX5_renew cX5_renew 3 none) r_X5_renew K_X5_renew := s_X5_renew k_X5_supposeNothing ⟨rfl, rfl⟩ ⟨Nat.le_of_ble_eq_true rfl, Nat.le_of_ble_eq_true rfl⟩
def r_X5_suppose : Room := { frames := 2, cells := 0, slots := 0, locals := 49 }
def K_X5_suppose : am_T := WP_X5_suppose K_X5_begin
theorem k_X5_suppose : am_S false yX5_suppose (am_ws yX5_suppose cX5_suppose 4 none) r_X5_suppose K_X5_suppose := s_X5_suppose k_X5_begin ⟨rfl, rfl⟩ ⟨Nat.le_of_ble_eq_true rfl, Nat.le_of_ble_eq_true rfl⟩
def r_X6_costOrNone : Room := { frames := 2, cells := 0, slots := 0, locals := 42 }
def K_X6_costOrNone : am_T := WP_X6_costOrNone K_X6_totalAt K_X6_costAt
theorem k_X6_costOrNone : am_S false yX6_costOrNone (am_ws yX6_costOrNone cX6_costOrNone 2 (some .int)) r_X6_costOrNone K_X6_costOrNone := s_X6_costOrNone k_X6_totalAt k_X6_costAt ⟨rfl, rfl⟩ ⟨Nat.le_of_ble_eq_true rfl, Nat.le_of_ble_eq_true rfl⟩ ⟨Nat.le_of_ble_eq_true rfl, Nat.le_of_ble_eq_true rfl⟩
def r_X7_init : Room := { frames := 1, cells := 1, slots := 200, locals := 20 }
def K_X7_init : am_T := WP_X7_init 1 200
theorem k_X7_init : am_S true yX7_init (am_ws yX7_init cX7_init 1 none) r_X7_init K_X7_init := s_X7_init ⟨Nat.le_of_ble_eq_true rfl, Nat.le_of_ble_eq_true rfl⟩
def r_X7_append : Room := { frames := 0, cells := 0, slots := 0, locals := 0 }
def K_X7_append : am_T := WP_X7_append
theorem k_X7_append : am_S false yX7_append (am_ws yX7_append cX7_append 2 none) r_X7_append K_X7_append := s_X7_append ⟨rfl, rfl⟩
def r_X7_replace : Room := { frames := 4, cells := 0, slots := 0, locals := 85 }
def K_X7_replace : am_T := WP_X7_replace K_J0_length_8abf5 K_J0_charAt_5068e K_X7_append
theorem k_X7_replace : am_S false yX7_replace (am_ws yX7_replace cX7_replace 3 none) r_X7_replace K_X7_replace := s_X7_replace k_J0_length_8abf5 k_J0_charAt_5068e k_X7_append ⟨rfl, rfl⟩ ⟨Nat.le_of_ble_eq_true rfl, Nat.le_of_ble_eq_true rfl⟩ ⟨Nat.le_of_ble_eq_true rfl, Nat.le_of_ble_eq_true rfl⟩ ⟨Nat.le_of_ble_eq_true rfl, Nat.le_of_ble_eq_true rfl⟩
def r_X7_faultPlace : Room := { frames := 6, cells := 0, slots := 0, locals := 130 }
def K_X7_faultPlace : am_T := WP_X7_faultPlace K_X7_entryEnd
theorem k_X7_faultPlace : am_S false yX7_faultPlace (am_ws yX7_faultPlace cX7_faultPlace 3 (some .int)) r_X7_faultPlace K_X7_faultPlace := s_X7_faultPlace k_X7_entryEnd ⟨rfl, rfl⟩ ⟨Nat.le_of_ble_eq_true rfl, Nat.le_of_ble_eq_true rfl⟩
def r_X8_write : Room := { frames := 1, cells := 0, slots := 0, locals := 21 }
def K_X8_write : am_T := WP_X8_write K_X7_append
theorem k_X8_write : am_S false yX8_write (am_ws yX8_write cX8_write 2 (some .int)) r_X8_write K_X8_write := s_X8_write k_X7_append ⟨rfl, rfl⟩ ⟨Nat.le_of_ble_eq_true rfl, Nat.le_of_ble_eq_true rfl⟩
def r_X8_wipe : Room := { frames := 0, cells := 0, slots := 0, locals := 0 }
def K_X8_wipe : am_T := WP_X8_wipe
theorem k_X8_wipe : am_S false yX8_wipe (am_ws yX8_wipe cX8_wipe 2 (some .int)) r_X8_wipe K_X8_wipe := s_X8_wipe ⟨rfl, rfl⟩
def r_X8_fault : Room := { frames := 7, cells := 0, slots := 0, locals := 152 }
def K_X8_fault : am_T := WP_X8_fault K_X7_faultPlace
theorem k_X8_fault : am_S false yX8_fault (am_ws yX8_fault cX8_fault 1 (some .int)) r_X8_fault K_X8_fault := s_X8_fault k_X7_faultPlace ⟨rfl, rfl⟩ ⟨Nat.le_of_ble_eq_true rfl, Nat.le_of_ble_eq_true rfl⟩
def r_X8_learn : Room := { frames := 7, cells := 0, slots := 0, locals := 160 }
def K_X8_learn : am_T := WP_X8_learn K_X7_faultPlace K_X0_readFrom K_X5_renew
theorem k_X8_learn : am_S false yX8_learn (am_ws yX8_learn cX8_learn 2 (some .int)) r_X8_learn K_X8_learn := s_X8_learn k_X7_faultPlace k_X0_readFrom k_X5_renew ⟨rfl, rfl⟩ ⟨Nat.le_of_ble_eq_true rfl, Nat.le_of_ble_eq_true rfl⟩ ⟨Nat.le_of_ble_eq_true rfl, Nat.le_of_ble_eq_true rfl⟩ ⟨Nat.le_of_ble_eq_true rfl, Nat.le_of_ble_eq_true rfl⟩
def r_X8_forget : Room := { frames := 4, cells := 0, slots := 0, locals := 93 }
def K_X8_forget : am_T := WP_X8_forget K_X0_has K_X0_remove K_X5_renew
theorem k_X8_forget : am_S false yX8_forget (am_ws yX8_forget cX8_forget 2 (some .int)) r_X8_forget K_X8_forget := s_X8_forget k_X0_has k_X0_remove k_X5_renew ⟨rfl, rfl⟩ ⟨Nat.le_of_ble_eq_true rfl, Nat.le_of_ble_eq_true rfl⟩ ⟨Nat.le_of_ble_eq_true rfl, Nat.le_of_ble_eq_true rfl⟩ ⟨Nat.le_of_ble_eq_true rfl, Nat.le_of_ble_eq_true rfl⟩
def r_X8_clue : Room := { frames := 4, cells := 0, slots := 0, locals := 93 }
def K_X8_clue : am_T := WP_X8_clue K_X1_readFrom K_X5_renew
theorem k_X8_clue : am_S false yX8_clue (am_ws yX8_clue cX8_clue 1 (some .int)) r_X8_clue K_X8_clue := s_X8_clue k_X1_readFrom k_X5_renew ⟨rfl, rfl⟩ ⟨Nat.le_of_ble_eq_true rfl, Nat.le_of_ble_eq_true rfl⟩ ⟨Nat.le_of_ble_eq_true rfl, Nat.le_of_ble_eq_true rfl⟩
def r_X8_adopt : Room := { frames := 4, cells := 0, slots := 0, locals := 93 }
def K_X8_adopt : am_T := WP_X8_adopt K_X5_renew
theorem k_X8_adopt : am_S false yX8_adopt (am_ws yX8_adopt cX8_adopt 3 none) r_X8_adopt K_X8_adopt := s_X8_adopt k_X5_renew ⟨rfl, rfl⟩ ⟨Nat.le_of_ble_eq_true rfl, Nat.le_of_ble_eq_true rfl⟩
def r_X8_answer : Room := { frames := 5, cells := 0, slots := 0, locals := 115 }
def K_X8_answer : am_T := WP_X8_answer K_X7_wordEnd K_X7_packed K_X8_adopt
theorem k_X8_answer : am_S false yX8_answer (am_ws yX8_answer cX8_answer 2 (some .int)) r_X8_answer K_X8_answer := s_X8_answer k_X7_wordEnd k_X7_packed k_X8_adopt ⟨rfl, rfl⟩ ⟨Nat.le_of_ble_eq_true rfl, Nat.le_of_ble_eq_true rfl⟩ ⟨Nat.le_of_ble_eq_true rfl, Nat.le_of_ble_eq_true rfl⟩ ⟨Nat.le_of_ble_eq_true rfl, Nat.le_of_ble_eq_true rfl⟩
def r_X8_weigh : Room := { frames := 4, cells := 0, slots := 0, locals := 93 }
def K_X8_weigh : am_T := WP_X8_weigh K_X5_renew
theorem k_X8_weigh : am_S false yX8_weigh (am_ws yX8_weigh cX8_weigh 4 (some .int)) r_X8_weigh K_X8_weigh := s_X8_weigh k_X5_renew ⟨rfl, rfl⟩ ⟨Nat.le_of_ble_eq_true rfl, Nat.le_of_ble_eq_true rfl⟩
def r_X8_entry : Room := { frames := 5, cells := 0, slots := 0, locals := 106 }
def K_X8_entry : am_T := WP_X8_entry K_X0_has K_X2_size K_X8_signOf
theorem k_X8_entry : am_S false yX8_entry (am_ws yX8_entry cX8_entry 4 (some .int)) r_X8_entry K_X8_entry := s_X8_entry k_X0_has k_X2_size k_X8_signOf ⟨rfl, rfl⟩ ⟨Nat.le_of_ble_eq_true rfl, Nat.le_of_ble_eq_true rfl⟩ ⟨Nat.le_of_ble_eq_true rfl, Nat.le_of_ble_eq_true rfl⟩ ⟨Nat.le_of_ble_eq_true rfl, Nat.le_of_ble_eq_true rfl⟩
def r_X8_letterOrNone : Room := { frames := 1, cells := 0, slots := 0, locals := 22 }
def K_X8_letterOrNone : am_T := WP_X8_letterOrNone K_X2_size K_X2_at
theorem k_X8_letterOrNone : am_S false yX8_letterOrNone (am_ws yX8_letterOrNone cX8_letterOrNone 3 (some .int)) r_X8_letterOrNone K_X8_letterOrNone := s_X8_letterOrNone k_X2_size k_X2_at ⟨rfl, rfl⟩ ⟨Nat.le_of_ble_eq_true rfl, Nat.le_of_ble_eq_true rfl⟩ ⟨Nat.le_of_ble_eq_true rfl, Nat.le_of_ble_eq_true rfl⟩
def r_X8_entryLetter : Room := { frames := 2, cells := 0, slots := 0, locals := 44 }
def K_X8_entryLetter : am_T := WP_X8_entryLetter K_X0_has K_X8_letterOrNone
theorem k_X8_entryLetter : am_S false yX8_entryLetter (am_ws yX8_entryLetter cX8_entryLetter 4 (some .int)) r_X8_entryLetter K_X8_entryLetter := s_X8_entryLetter k_X0_has k_X8_letterOrNone ⟨rfl, rfl⟩ ⟨Nat.le_of_ble_eq_true rfl, Nat.le_of_ble_eq_true rfl⟩ ⟨Nat.le_of_ble_eq_true rfl, Nat.le_of_ble_eq_true rfl⟩
def r_X8_clueLetter : Room := { frames := 2, cells := 0, slots := 0, locals := 44 }
def K_X8_clueLetter : am_T := WP_X8_clueLetter K_X1_has K_X2_size K_X8_letterOrNone
theorem k_X8_clueLetter : am_S false yX8_clueLetter (am_ws yX8_clueLetter cX8_clueLetter 3 (some .int)) r_X8_clueLetter K_X8_clueLetter := s_X8_clueLetter k_X1_has k_X2_size k_X8_letterOrNone ⟨rfl, rfl⟩ ⟨Nat.le_of_ble_eq_true rfl, Nat.le_of_ble_eq_true rfl⟩ ⟨Nat.le_of_ble_eq_true rfl, Nat.le_of_ble_eq_true rfl⟩ ⟨Nat.le_of_ble_eq_true rfl, Nat.le_of_ble_eq_true rfl⟩
def r_X8_answerLetter : Room := { frames := 2, cells := 0, slots := 0, locals := 44 }
def K_X8_answerLetter : am_T := WP_X8_answerLetter K_X8_letterOrNone
theorem k_X8_answerLetter : am_S false yX8_answerLetter (am_ws yX8_answerLetter cX8_answerLetter 2 (some .int)) r_X8_answerLetter K_X8_answerLetter := s_X8_answerLetter k_X8_letterOrNone ⟨rfl, rfl⟩ ⟨Nat.le_of_ble_eq_true rfl, Nat.le_of_ble_eq_true rfl⟩
def r_X8_sign : Room := { frames := 2, cells := 0, slots := 0, locals := 43 }
def K_X8_sign : am_T := WP_X8_sign K_X1_has K_X5_marked
theorem k_X8_sign : am_S false yX8_sign (am_ws yX8_sign cX8_sign 3 (some .int)) r_X8_sign K_X8_sign := s_X8_sign k_X1_has k_X5_marked ⟨rfl, rfl⟩ ⟨Nat.le_of_ble_eq_true rfl, Nat.le_of_ble_eq_true rfl⟩ ⟨Nat.le_of_ble_eq_true rfl, Nat.le_of_ble_eq_true rfl⟩
def r_X8_limited : Room := { frames := 1, cells := 0, slots := 0, locals := 23 }
def K_X8_limited : am_T := WP_X8_limited
theorem k_X8_limited : am_S false yX8_limited (am_ws yX8_limited cX8_limited 2 (some .int)) r_X8_limited K_X8_limited := s_X8_limited ⟨rfl, rfl⟩ ⟨Nat.le_of_ble_eq_true rfl, Nat.le_of_ble_eq_true rfl⟩
def r_X8_parses : Room := { frames := 79, cells := 0, slots := 0, locals := 3043 }
def K_X8_parses : am_T := WP_X8_parses K_X5_parse K_X6_totalAt K_X8_limited
theorem k_X8_parses : am_S false yX8_parses (am_ws yX8_parses cX8_parses 1 (some .int)) r_X8_parses K_X8_parses := s_X8_parses k_X5_parse k_X6_totalAt k_X8_limited ⟨rfl, rfl⟩ ⟨Nat.le_of_ble_eq_true rfl, Nat.le_of_ble_eq_true rfl⟩ ⟨Nat.le_of_ble_eq_true rfl, Nat.le_of_ble_eq_true rfl⟩ ⟨Nat.le_of_ble_eq_true rfl, Nat.le_of_ble_eq_true rfl⟩
def r_X8_cost : Room := { frames := 79, cells := 0, slots := 0, locals := 3043 }
def K_X8_cost : am_T := WP_X8_cost K_X5_parse K_X6_costOrNone
theorem k_X8_cost : am_S false yX8_cost (am_ws yX8_cost cX8_cost 1 (some .int)) r_X8_cost K_X8_cost := s_X8_cost k_X5_parse k_X6_costOrNone ⟨rfl, rfl⟩ ⟨Nat.le_of_ble_eq_true rfl, Nat.le_of_ble_eq_true rfl⟩ ⟨Nat.le_of_ble_eq_true rfl, Nat.le_of_ble_eq_true rfl⟩
def r_X8_first : Room := { frames := 150, cells := 0, slots := 0, locals := 5871 }
def K_X8_first : am_T := WP_X8_first K_X5_parse K_X6_totalAt K_X3_make
theorem k_X8_first : am_S false yX8_first (am_ws yX8_first cX8_first 2 (some .int)) r_X8_first K_X8_first := s_X8_first k_X5_parse k_X6_totalAt k_X3_make ⟨rfl, rfl⟩ ⟨Nat.le_of_ble_eq_true rfl, Nat.le_of_ble_eq_true rfl⟩ ⟨Nat.le_of_ble_eq_true rfl, Nat.le_of_ble_eq_true rfl⟩ ⟨Nat.le_of_ble_eq_true rfl, Nat.le_of_ble_eq_true rfl⟩
def r_X8_inRange : Room := { frames := 1, cells := 0, slots := 0, locals := 22 }
def K_X8_inRange : am_T := WP_X8_inRange K_X2_size
theorem k_X8_inRange : am_S false yX8_inRange (am_ws yX8_inRange cX8_inRange 5 (some .boolean)) r_X8_inRange K_X8_inRange := s_X8_inRange k_X2_size ⟨rfl, rfl⟩ ⟨Nat.le_of_ble_eq_true rfl, Nat.le_of_ble_eq_true rfl⟩
def r_X8_pieces : Room := { frames := 78, cells := 0, slots := 0, locals := 3020 }
def K_X8_pieces : am_T := WP_X8_pieces K_X8_inRange K_X8_stretch (K_X5_piece 7) K_X6_totalAt K_X8_limited
theorem k_X8_pieces : am_S false yX8_pieces (am_ws yX8_pieces cX8_pieces 5 (some .int)) r_X8_pieces K_X8_pieces := s_X8_pieces k_X8_inRange k_X8_stretch (k_X5_piece 7) k_X6_totalAt k_X8_limited ⟨rfl, rfl⟩ ⟨Nat.le_of_ble_eq_true rfl, Nat.le_of_ble_eq_true rfl⟩ ⟨Nat.le_of_ble_eq_true rfl, Nat.le_of_ble_eq_true rfl⟩ ⟨Nat.le_of_ble_eq_true rfl, Nat.le_of_ble_eq_true rfl⟩ ⟨Nat.le_of_ble_eq_true rfl, Nat.le_of_ble_eq_true rfl⟩ ⟨Nat.le_of_ble_eq_true rfl, Nat.le_of_ble_eq_true rfl⟩
def r_X8_pieceCost : Room := { frames := 78, cells := 0, slots := 0, locals := 3020 }
def K_X8_pieceCost : am_T := WP_X8_pieceCost K_X8_inRange K_X8_stretch (K_X5_piece 7) K_X6_costOrNone
theorem k_X8_pieceCost : am_S false yX8_pieceCost (am_ws yX8_pieceCost cX8_pieceCost 5 (some .int)) r_X8_pieceCost K_X8_pieceCost := s_X8_pieceCost k_X8_inRange k_X8_stretch (k_X5_piece 7) k_X6_costOrNone ⟨rfl, rfl⟩ ⟨Nat.le_of_ble_eq_true rfl, Nat.le_of_ble_eq_true rfl⟩ ⟨Nat.le_of_ble_eq_true rfl, Nat.le_of_ble_eq_true rfl⟩ ⟨Nat.le_of_ble_eq_true rfl, Nat.le_of_ble_eq_true rfl⟩ ⟨Nat.le_of_ble_eq_true rfl, Nat.le_of_ble_eq_true rfl⟩
def r_X8_units : Room := { frames := 76, cells := 0, slots := 0, locals := 2963 }
def K_X8_units : am_T := WP_X8_units K_X8_inRange K_X8_stretch (K_X5_unit 7) K_X6_totalAt K_X8_limited
theorem k_X8_units : am_S false yX8_units (am_ws yX8_units cX8_units 5 (some .int)) r_X8_units K_X8_units := s_X8_units k_X8_inRange k_X8_stretch (k_X5_unit 7) k_X6_totalAt k_X8_limited ⟨rfl, rfl⟩ ⟨Nat.le_of_ble_eq_true rfl, Nat.le_of_ble_eq_true rfl⟩ ⟨Nat.le_of_ble_eq_true rfl, Nat.le_of_ble_eq_true rfl⟩ ⟨Nat.le_of_ble_eq_true rfl, Nat.le_of_ble_eq_true rfl⟩ ⟨Nat.le_of_ble_eq_true rfl, Nat.le_of_ble_eq_true rfl⟩ ⟨Nat.le_of_ble_eq_true rfl, Nat.le_of_ble_eq_true rfl⟩
def r_X8_cheapest : Room := { frames := 79, cells := 0, slots := 0, locals := 3043 }
def K_X8_cheapest : am_T := WP_X8_cheapest K_X5_parse K_X6_tiesAt K_X8_limited
theorem k_X8_cheapest : am_S false yX8_cheapest (am_ws yX8_cheapest cX8_cheapest 1 (some .int)) r_X8_cheapest K_X8_cheapest := s_X8_cheapest k_X5_parse k_X6_tiesAt k_X8_limited ⟨rfl, rfl⟩ ⟨Nat.le_of_ble_eq_true rfl, Nat.le_of_ble_eq_true rfl⟩ ⟨Nat.le_of_ble_eq_true rfl, Nat.le_of_ble_eq_true rfl⟩ ⟨Nat.le_of_ble_eq_true rfl, Nat.le_of_ble_eq_true rfl⟩
def r_X8_mayDefine : Room := { frames := 2, cells := 0, slots := 0, locals := 42 }
def K_X8_mayDefine : am_T := WP_X8_mayDefine K_X1_wordAt
theorem k_X8_mayDefine : am_S false yX8_mayDefine (am_ws yX8_mayDefine cX8_mayDefine 2 (some .boolean)) r_X8_mayDefine K_X8_mayDefine := s_X8_mayDefine k_X1_wordAt ⟨rfl, rfl⟩ ⟨Nat.le_of_ble_eq_true rfl, Nat.le_of_ble_eq_true rfl⟩
def r_X8_isOffer : Room := { frames := 3, cells := 0, slots := 0, locals := 63 }
def K_X8_isOffer : am_T := WP_X8_isOffer K_X2_size K_X8_mayDefine
theorem k_X8_isOffer : am_S false yX8_isOffer (am_ws yX8_isOffer cX8_isOffer 5 (some .boolean)) r_X8_isOffer K_X8_isOffer := s_X8_isOffer k_X2_size k_X8_mayDefine ⟨rfl, rfl⟩ ⟨Nat.le_of_ble_eq_true rfl, Nat.le_of_ble_eq_true rfl⟩ ⟨Nat.le_of_ble_eq_true rfl, Nat.le_of_ble_eq_true rfl⟩
def r_X8_offers : Room := { frames := 4, cells := 0, slots := 0, locals := 87 }
def K_X8_offers : am_T := WP_X8_offers K_X8_isOffer
theorem k_X8_offers : am_S false yX8_offers (am_ws yX8_offers cX8_offers 3 (some .int)) r_X8_offers K_X8_offers := s_X8_offers k_X8_isOffer ⟨rfl, rfl⟩ ⟨Nat.le_of_ble_eq_true rfl, Nat.le_of_ble_eq_true rfl⟩
def r_X8_entryOfOffer : Room := { frames := 4, cells := 0, slots := 0, locals := 87 }
def K_X8_entryOfOffer : am_T := WP_X8_entryOfOffer K_X8_isOffer
theorem k_X8_entryOfOffer : am_S false yX8_entryOfOffer (am_ws yX8_entryOfOffer cX8_entryOfOffer 4 (some .int)) r_X8_entryOfOffer K_X8_entryOfOffer := s_X8_entryOfOffer k_X8_isOffer ⟨rfl, rfl⟩ ⟨Nat.le_of_ble_eq_true rfl, Nat.le_of_ble_eq_true rfl⟩
def r_X8_offer : Room := { frames := 5, cells := 0, slots := 0, locals := 110 }
def K_X8_offer : am_T := WP_X8_offer K_X8_offers K_X8_entryOfOffer
theorem k_X8_offer : am_S false yX8_offer (am_ws yX8_offer cX8_offer 2 (some .int)) r_X8_offer K_X8_offer := s_X8_offer k_X8_offers k_X8_entryOfOffer ⟨rfl, rfl⟩ ⟨Nat.le_of_ble_eq_true rfl, Nat.le_of_ble_eq_true rfl⟩ ⟨Nat.le_of_ble_eq_true rfl, Nat.le_of_ble_eq_true rfl⟩
def r_X8_ifOffer : Room := { frames := 80, cells := 0, slots := 0, locals := 3063 }
def K_X8_ifOffer : am_T := WP_X8_ifOffer K_X8_entryOfOffer K_X5_suppose K_X8_parses K_X8_cost K_X5_supposeNothing
theorem k_X8_ifOffer : am_S false yX8_ifOffer (am_ws yX8_ifOffer cX8_ifOffer 5 (some .int)) r_X8_ifOffer K_X8_ifOffer := s_X8_ifOffer k_X8_entryOfOffer k_X5_suppose k_X8_parses k_X8_cost k_X5_supposeNothing ⟨rfl, rfl⟩ ⟨Nat.le_of_ble_eq_true rfl, Nat.le_of_ble_eq_true rfl⟩ ⟨Nat.le_of_ble_eq_true rfl, Nat.le_of_ble_eq_true rfl⟩ ⟨Nat.le_of_ble_eq_true rfl, Nat.le_of_ble_eq_true rfl⟩ ⟨Nat.le_of_ble_eq_true rfl, Nat.le_of_ble_eq_true rfl⟩ ⟨Nat.le_of_ble_eq_true rfl, Nat.le_of_ble_eq_true rfl⟩
def r_X8_take : Room := { frames := 5, cells := 0, slots := 0, locals := 115 }
def K_X8_take : am_T := WP_X8_take K_X8_entryOfOffer K_X8_adopt K_X2_size
theorem k_X8_take : am_S false yX8_take (am_ws yX8_take cX8_take 3 (some .int)) r_X8_take K_X8_take := s_X8_take k_X8_entryOfOffer k_X8_adopt k_X2_size ⟨rfl, rfl⟩ ⟨Nat.le_of_ble_eq_true rfl, Nat.le_of_ble_eq_true rfl⟩ ⟨Nat.le_of_ble_eq_true rfl, Nat.le_of_ble_eq_true rfl⟩ ⟨Nat.le_of_ble_eq_true rfl, Nat.le_of_ble_eq_true rfl⟩
def r_X8_without : Room := { frames := 80, cells := 0, slots := 0, locals := 3063 }
def K_X8_without : am_T := WP_X8_without K_X0_has K_X5_suppose K_X8_parses K_X5_supposeNothing
theorem k_X8_without : am_S false yX8_without (am_ws yX8_without cX8_without 3 (some .int)) r_X8_without K_X8_without := s_X8_without k_X0_has k_X5_suppose k_X8_parses k_X5_supposeNothing ⟨rfl, rfl⟩ ⟨Nat.le_of_ble_eq_true rfl, Nat.le_of_ble_eq_true rfl⟩ ⟨Nat.le_of_ble_eq_true rfl, Nat.le_of_ble_eq_true rfl⟩ ⟨Nat.le_of_ble_eq_true rfl, Nat.le_of_ble_eq_true rfl⟩ ⟨Nat.le_of_ble_eq_true rfl, Nat.le_of_ble_eq_true rfl⟩
def r_X8_neededEntries : Room := { frames := 79, cells := 0, slots := 0, locals := 3043 }
def K_X8_neededEntries : am_T := WP_X8_neededEntries K_X5_parse K_X6_totalAt K_X1_includes K_X5_suppose K_X5_supposeNothing
theorem k_X8_neededEntries : am_S false yX8_neededEntries (am_ws yX8_neededEntries cX8_neededEntries 5 (some .int)) r_X8_neededEntries K_X8_neededEntries := s_X8_neededEntries k_X5_parse k_X6_totalAt k_X1_includes k_X5_suppose k_X5_supposeNothing ⟨rfl, rfl⟩ ⟨Nat.le_of_ble_eq_true rfl, Nat.le_of_ble_eq_true rfl⟩ ⟨Nat.le_of_ble_eq_true rfl, Nat.le_of_ble_eq_true rfl⟩ ⟨Nat.le_of_ble_eq_true rfl, Nat.le_of_ble_eq_true rfl⟩ ⟨Nat.le_of_ble_eq_true rfl, Nat.le_of_ble_eq_true rfl⟩ ⟨Nat.le_of_ble_eq_true rfl, Nat.le_of_ble_eq_true rfl⟩
def r_X8_count : Room := { frames := 80, cells := 0, slots := 0, locals := 3067 }
def K_X8_count : am_T := WP_X8_count K_X2_size K_X8_offers K_X8_neededEntries K_X0_stands
theorem k_X8_count : am_S false yX8_count (am_ws yX8_count cX8_count 2 (some .int)) r_X8_count K_X8_count := s_X8_count k_X2_size k_X8_offers k_X8_neededEntries k_X0_stands ⟨rfl, rfl⟩ ⟨Nat.le_of_ble_eq_true rfl, Nat.le_of_ble_eq_true rfl⟩ ⟨Nat.le_of_ble_eq_true rfl, Nat.le_of_ble_eq_true rfl⟩ ⟨Nat.le_of_ble_eq_true rfl, Nat.le_of_ble_eq_true rfl⟩ ⟨Nat.le_of_ble_eq_true rfl, Nat.le_of_ble_eq_true rfl⟩
def r_X9_write : Room := { frames := 0, cells := 0, slots := 0, locals := 0 }
def K_X9_write : am_T := WP_X9_write
theorem k_X9_write : am_S false yX9_write (am_ws yX9_write cX9_write 2 (some .int)) r_X9_write K_X9_write := s_X9_write ⟨rfl, rfl⟩
def r_X9_writes : Room := { frames := 1, cells := 0, slots := 0, locals := 21 }
def K_X9_writes : am_T := WP_X9_writes K_X9_write
theorem k_X9_writes : am_S false yX9_writes (am_ws yX9_writes cX9_writes 3 none) r_X9_writes K_X9_writes := s_X9_writes k_X9_write ⟨rfl, rfl⟩ ⟨Nat.le_of_ble_eq_true rfl, Nat.le_of_ble_eq_true rfl⟩
def r_X9_letterAt : Room := { frames := 0, cells := 0, slots := 0, locals := 0 }
def K_X9_letterAt : am_T := WP_X9_letterAt
theorem k_X9_letterAt : am_S false yX9_letterAt (am_ws yX9_letterAt cX9_letterAt 2 (some .int)) r_X9_letterAt K_X9_letterAt := s_X9_letterAt ⟨rfl, rfl⟩
def r_X9_isSmall : Room := { frames := 1, cells := 0, slots := 0, locals := 21 }
def K_X9_isSmall : am_T := WP_X9_isSmall K_X9_letterAt
theorem k_X9_isSmall : am_S false yX9_isSmall (am_ws yX9_isSmall cX9_isSmall 2 (some .boolean)) r_X9_isSmall K_X9_isSmall := s_X9_isSmall k_X9_letterAt ⟨rfl, rfl⟩ ⟨Nat.le_of_ble_eq_true rfl, Nat.le_of_ble_eq_true rfl⟩
def r_X9_small : Room := { frames := 2, cells := 0, slots := 0, locals := 42 }
def K_X9_small : am_T := WP_X9_small K_X9_isSmall K_X9_letterAt
theorem k_X9_small : am_S false yX9_small (am_ws yX9_small cX9_small 6 (some .int)) r_X9_small K_X9_small := s_X9_small k_X9_isSmall k_X9_letterAt ⟨rfl, rfl⟩ ⟨Nat.le_of_ble_eq_true rfl, Nat.le_of_ble_eq_true rfl⟩ ⟨Nat.le_of_ble_eq_true rfl, Nat.le_of_ble_eq_true rfl⟩
def r_X9_sortOf : Room := { frames := 0, cells := 0, slots := 0, locals := 0 }
def K_X9_sortOf : am_T := WP_X9_sortOf
theorem k_X9_sortOf : am_S false yX9_sortOf (am_ws yX9_sortOf cX9_sortOf 2 (some .int)) r_X9_sortOf K_X9_sortOf := s_X9_sortOf ⟨rfl, rfl⟩
def r_X9_readsEntry : Room := { frames := 3, cells := 0, slots := 0, locals := 67 }
def K_X9_readsEntry : am_T := WP_X9_readsEntry K_X9_small K_X9_letterAt K_X9_sortOf
theorem k_X9_readsEntry : am_S false yX9_readsEntry (am_ws yX9_readsEntry cX9_readsEntry 5 (some .int)) r_X9_readsEntry K_X9_readsEntry := s_X9_readsEntry k_X9_small k_X9_letterAt k_X9_sortOf ⟨rfl, rfl⟩ ⟨Nat.le_of_ble_eq_true rfl, Nat.le_of_ble_eq_true rfl⟩ ⟨Nat.le_of_ble_eq_true rfl, Nat.le_of_ble_eq_true rfl⟩ ⟨Nat.le_of_ble_eq_true rfl, Nat.le_of_ble_eq_true rfl⟩
def r_X9_isLike : Room := { frames := 0, cells := 0, slots := 0, locals := 0 }
def K_X9_isLike : am_T := WP_X9_isLike
theorem k_X9_isLike : am_S false yX9_isLike (am_ws yX9_isLike cX9_isLike 6 (some .boolean)) r_X9_isLike K_X9_isLike := s_X9_isLike ⟨rfl, rfl⟩
def r_X9_isThere : Room := { frames := 1, cells := 0, slots := 0, locals := 25 }
def K_X9_isThere : am_T := WP_X9_isThere K_X9_isLike
theorem k_X9_isThere : am_S false yX9_isThere (am_ws yX9_isThere cX9_isThere 3 (some .boolean)) r_X9_isThere K_X9_isThere := s_X9_isThere k_X9_isLike ⟨rfl, rfl⟩ ⟨Nat.le_of_ble_eq_true rfl, Nat.le_of_ble_eq_true rfl⟩
def r_X9_reads : Room := { frames := 4, cells := 0, slots := 0, locals := 91 }
def K_X9_reads : am_T := WP_X9_reads K_X9_readsEntry K_X9_isThere
theorem k_X9_reads : am_S false yX9_reads (am_ws yX9_reads cX9_reads 4 (some .int)) r_X9_reads K_X9_reads := s_X9_reads k_X9_readsEntry k_X9_isThere ⟨rfl, rfl⟩ ⟨Nat.le_of_ble_eq_true rfl, Nat.le_of_ble_eq_true rfl⟩ ⟨Nat.le_of_ble_eq_true rfl, Nat.le_of_ble_eq_true rfl⟩
def r_X9_learn : Room := { frames := 5, cells := 0, slots := 0, locals := 114 }
def K_X9_learn : am_T := WP_X9_learn K_X9_reads
theorem k_X9_learn : am_S false yX9_learn (am_ws yX9_learn cX9_learn 3 (some .int)) r_X9_learn K_X9_learn := s_X9_learn k_X9_reads ⟨rfl, rfl⟩ ⟨Nat.le_of_ble_eq_true rfl, Nat.le_of_ble_eq_true rfl⟩
def r_X9_clue : Room := { frames := 3, cells := 0, slots := 0, locals := 67 }
def K_X9_clue : am_T := WP_X9_clue K_X9_small K_X9_letterAt
theorem k_X9_clue : am_S false yX9_clue (am_ws yX9_clue cX9_clue 5 (some .int)) r_X9_clue K_X9_clue := s_X9_clue k_X9_small k_X9_letterAt ⟨rfl, rfl⟩ ⟨Nat.le_of_ble_eq_true rfl, Nat.le_of_ble_eq_true rfl⟩ ⟨Nat.le_of_ble_eq_true rfl, Nat.le_of_ble_eq_true rfl⟩
def r_X9_init : Room := { frames := 6, cells := 22, slots := 12602, locals := 136 }
def K_X9_init : am_T := WP_X9_init K_X9_writes K_X9_learn K_X9_clue 22 12602
theorem k_X9_init : am_S true yX9_init (am_ws yX9_init cX9_init 1 none) r_X9_init K_X9_init := s_X9_init k_X9_writes k_X9_learn k_X9_clue ⟨Nat.le_of_ble_eq_true rfl, Nat.le_of_ble_eq_true rfl⟩ ⟨Nat.le_of_ble_eq_true rfl, Nat.le_of_ble_eq_true rfl⟩ ⟨Nat.le_of_ble_eq_true rfl, Nat.le_of_ble_eq_true rfl⟩ ⟨Nat.le_of_ble_eq_true rfl, Nat.le_of_ble_eq_true rfl⟩
def r_X9_isIn : Room := { frames := 0, cells := 0, slots := 0, locals := 0 }
def K_X9_isIn : am_T := WP_X9_isIn
theorem k_X9_isIn : am_S false yX9_isIn (am_ws yX9_isIn cX9_isIn 3 (some .boolean)) r_X9_isIn K_X9_isIn := s_X9_isIn ⟨rfl, rfl⟩
def r_X9_wipe : Room := { frames := 0, cells := 0, slots := 0, locals := 0 }
def K_X9_wipe : am_T := WP_X9_wipe
theorem k_X9_wipe : am_S false yX9_wipe (am_ws yX9_wipe cX9_wipe 2 (some .int)) r_X9_wipe K_X9_wipe := s_X9_wipe ⟨rfl, rfl⟩
def r_X9_fault : Room := { frames := 5, cells := 0, slots := 0, locals := 114 }
def K_X9_fault : am_T := WP_X9_fault K_X9_reads
theorem k_X9_fault : am_S false yX9_fault (am_ws yX9_fault cX9_fault 1 (some .int)) r_X9_fault K_X9_fault := s_X9_fault k_X9_reads ⟨rfl, rfl⟩ ⟨Nat.le_of_ble_eq_true rfl, Nat.le_of_ble_eq_true rfl⟩
def r_X9_isEntry : Room := { frames := 1, cells := 0, slots := 0, locals := 22 }
def K_X9_isEntry : am_T := WP_X9_isEntry K_X9_isIn
theorem k_X9_isEntry : am_S false yX9_isEntry (am_ws yX9_isEntry cX9_isEntry 2 (some .boolean)) r_X9_isEntry K_X9_isEntry := s_X9_isEntry k_X9_isIn ⟨rfl, rfl⟩ ⟨Nat.le_of_ble_eq_true rfl, Nat.le_of_ble_eq_true rfl⟩
def r_X9_forget : Room := { frames := 2, cells := 0, slots := 0, locals := 43 }
def K_X9_forget : am_T := WP_X9_forget K_X9_isEntry
theorem k_X9_forget : am_S false yX9_forget (am_ws yX9_forget cX9_forget 3 (some .int)) r_X9_forget K_X9_forget := s_X9_forget k_X9_isEntry ⟨rfl, rfl⟩ ⟨Nat.le_of_ble_eq_true rfl, Nat.le_of_ble_eq_true rfl⟩
def r_X9_answer : Room := { frames := 3, cells := 0, slots := 0, locals := 67 }
def K_X9_answer : am_T := WP_X9_answer K_X9_isIn K_X9_small K_X9_isSmall
theorem k_X9_answer : am_S false yX9_answer (am_ws yX9_answer cX9_answer 2 (some .int)) r_X9_answer K_X9_answer := s_X9_answer k_X9_isIn k_X9_small k_X9_isSmall ⟨rfl, rfl⟩ ⟨Nat.le_of_ble_eq_true rfl, Nat.le_of_ble_eq_true rfl⟩ ⟨Nat.le_of_ble_eq_true rfl, Nat.le_of_ble_eq_true rfl⟩ ⟨Nat.le_of_ble_eq_true rfl, Nat.le_of_ble_eq_true rfl⟩
def r_X9_weigh : Room := { frames := 1, cells := 0, slots := 0, locals := 22 }
def K_X9_weigh : am_T := WP_X9_weigh K_X9_isIn
theorem k_X9_weigh : am_S false yX9_weigh (am_ws yX9_weigh cX9_weigh 4 (some .int)) r_X9_weigh K_X9_weigh := s_X9_weigh k_X9_isIn ⟨rfl, rfl⟩ ⟨Nat.le_of_ble_eq_true rfl, Nat.le_of_ble_eq_true rfl⟩
def r_X9_letterOf : Room := { frames := 0, cells := 0, slots := 0, locals := 0 }
def K_X9_letterOf : am_T := WP_X9_letterOf
theorem k_X9_letterOf : am_S false yX9_letterOf (am_ws yX9_letterOf cX9_letterOf 2 (some .int)) r_X9_letterOf K_X9_letterOf := s_X9_letterOf ⟨rfl, rfl⟩
def r_X9_entry : Room := { frames := 2, cells := 0, slots := 0, locals := 43 }
def K_X9_entry : am_T := WP_X9_entry K_X9_isEntry K_X9_isIn K_X9_letterOf
theorem k_X9_entry : am_S false yX9_entry (am_ws yX9_entry cX9_entry 3 (some .int)) r_X9_entry K_X9_entry := s_X9_entry k_X9_isEntry k_X9_isIn k_X9_letterOf ⟨rfl, rfl⟩ ⟨Nat.le_of_ble_eq_true rfl, Nat.le_of_ble_eq_true rfl⟩ ⟨Nat.le_of_ble_eq_true rfl, Nat.le_of_ble_eq_true rfl⟩ ⟨Nat.le_of_ble_eq_true rfl, Nat.le_of_ble_eq_true rfl⟩
def r_X9_entryLetter : Room := { frames := 2, cells := 0, slots := 0, locals := 43 }
def K_X9_entryLetter : am_T := WP_X9_entryLetter K_X9_isEntry K_X9_isIn
theorem k_X9_entryLetter : am_S false yX9_entryLetter (am_ws yX9_entryLetter cX9_entryLetter 4 (some .int)) r_X9_entryLetter K_X9_entryLetter := s_X9_entryLetter k_X9_isEntry k_X9_isIn ⟨rfl, rfl⟩ ⟨Nat.le_of_ble_eq_true rfl, Nat.le_of_ble_eq_true rfl⟩ ⟨Nat.le_of_ble_eq_true rfl, Nat.le_of_ble_eq_true rfl⟩
def r_X9_isWord : Room := { frames := 1, cells := 0, slots := 0, locals := 22 }
def K_X9_isWord : am_T := WP_X9_isWord K_X9_isIn
theorem k_X9_isWord : am_S false yX9_isWord (am_ws yX9_isWord cX9_isWord 2 (some .boolean)) r_X9_isWord K_X9_isWord := s_X9_isWord k_X9_isIn ⟨rfl, rfl⟩ ⟨Nat.le_of_ble_eq_true rfl, Nat.le_of_ble_eq_true rfl⟩
def r_X9_clueLetter : Room := { frames := 2, cells := 0, slots := 0, locals := 43 }
def K_X9_clueLetter : am_T := WP_X9_clueLetter K_X9_isWord
theorem k_X9_clueLetter : am_S false yX9_clueLetter (am_ws yX9_clueLetter cX9_clueLetter 3 (some .int)) r_X9_clueLetter K_X9_clueLetter := s_X9_clueLetter k_X9_isWord ⟨rfl, rfl⟩ ⟨Nat.le_of_ble_eq_true rfl, Nat.le_of_ble_eq_true rfl⟩
def r_X9_answerLetter : Room := { frames := 0, cells := 0, slots := 0, locals := 0 }
def K_X9_answerLetter : am_T := WP_X9_answerLetter
theorem k_X9_answerLetter : am_S false yX9_answerLetter (am_ws yX9_answerLetter cX9_answerLetter 2 (some .int)) r_X9_answerLetter K_X9_answerLetter := s_X9_answerLetter ⟨rfl, rfl⟩
def r_X9_isOf : Room := { frames := 1, cells := 0, slots := 0, locals := 25 }
def K_X9_isOf : am_T := WP_X9_isOf K_X9_isLike
theorem k_X9_isOf : am_S false yX9_isOf (am_ws yX9_isOf cX9_isOf 3 (some .boolean)) r_X9_isOf K_X9_isOf := s_X9_isOf k_X9_isLike ⟨rfl, rfl⟩ ⟨Nat.le_of_ble_eq_true rfl, Nat.le_of_ble_eq_true rfl⟩
def r_X9_isSign : Room := { frames := 2, cells := 0, slots := 0, locals := 47 }
def K_X9_isSign : am_T := WP_X9_isSign K_X9_isOf
theorem k_X9_isSign : am_S false yX9_isSign (am_ws yX9_isSign cX9_isSign 4 (some .boolean)) r_X9_isSign K_X9_isSign := s_X9_isSign k_X9_isOf ⟨rfl, rfl⟩ ⟨Nat.le_of_ble_eq_true rfl, Nat.le_of_ble_eq_true rfl⟩
def r_X9_sign : Room := { frames := 3, cells := 0, slots := 0, locals := 70 }
def K_X9_sign : am_T := WP_X9_sign K_X9_isWord K_X9_isIn K_X9_isSign
theorem k_X9_sign : am_S false yX9_sign (am_ws yX9_sign cX9_sign 3 (some .int)) r_X9_sign K_X9_sign := s_X9_sign k_X9_isWord k_X9_isIn k_X9_isSign ⟨rfl, rfl⟩ ⟨Nat.le_of_ble_eq_true rfl, Nat.le_of_ble_eq_true rfl⟩ ⟨Nat.le_of_ble_eq_true rfl, Nat.le_of_ble_eq_true rfl⟩ ⟨Nat.le_of_ble_eq_true rfl, Nat.le_of_ble_eq_true rfl⟩
def r_X9_spot : Room := { frames := 0, cells := 0, slots := 0, locals := 0 }
def K_X9_spot : am_T := WP_X9_spot
theorem k_X9_spot : am_S false yX9_spot (am_ws yX9_spot cX9_spot 4 (some .int)) r_X9_spot K_X9_spot := s_X9_spot ⟨rfl, rfl⟩
def r_X9_lays : Room := { frames := 0, cells := 0, slots := 0, locals := 0 }
def K_X9_lays : am_T := WP_X9_lays
theorem k_X9_lays : am_S false yX9_lays (am_ws yX9_lays cX9_lays 5 none) r_X9_lays K_X9_lays := s_X9_lays ⟨rfl, rfl⟩
def r_X9_part : Room := { frames := 0, cells := 0, slots := 0, locals := 0 }
def K_X9_part : am_T := WP_X9_part
theorem k_X9_part : am_S false yX9_part (am_ws yX9_part cX9_part 5 (some .int)) r_X9_part K_X9_part := s_X9_part ⟨rfl, rfl⟩
def r_X9_letter : Room := { frames := 0, cells := 0, slots := 0, locals := 0 }
def K_X9_letter : am_T := WP_X9_letter
theorem k_X9_letter : am_S false yX9_letter (am_ws yX9_letter cX9_letter 2 (some .int)) r_X9_letter K_X9_letter := s_X9_letter ⟨rfl, rfl⟩
def r_X9_piecesAt : Room := { frames := 1, cells := 0, slots := 0, locals := 23 }
def K_X9_piecesAt : am_T := WP_X9_piecesAt K_X9_spot
theorem k_X9_piecesAt : am_S false yX9_piecesAt (am_ws yX9_piecesAt cX9_piecesAt 5 (some .int)) r_X9_piecesAt K_X9_piecesAt := s_X9_piecesAt k_X9_spot ⟨rfl, rfl⟩ ⟨Nat.le_of_ble_eq_true rfl, Nat.le_of_ble_eq_true rfl⟩
def r_X9_unitsAt : Room := { frames := 1, cells := 0, slots := 0, locals := 23 }
def K_X9_unitsAt : am_T := WP_X9_unitsAt K_X9_spot
theorem k_X9_unitsAt : am_S false yX9_unitsAt (am_ws yX9_unitsAt cX9_unitsAt 5 (some .int)) r_X9_unitsAt K_X9_unitsAt := s_X9_unitsAt k_X9_spot ⟨rfl, rfl⟩ ⟨Nat.le_of_ble_eq_true rfl, Nat.le_of_ble_eq_true rfl⟩
def r_X9_opens : Room := { frames := 0, cells := 0, slots := 0, locals := 0 }
def K_X9_opens : am_T := WP_X9_opens
theorem k_X9_opens : am_S false yX9_opens (am_ws yX9_opens cX9_opens 1 none) r_X9_opens K_X9_opens := s_X9_opens ⟨rfl, rfl⟩
def r_X9_meets : Room := { frames := 0, cells := 0, slots := 0, locals := 0 }
def K_X9_meets : am_T := WP_X9_meets
theorem k_X9_meets : am_S false yX9_meets (am_ws yX9_meets cX9_meets 8 none) r_X9_meets K_X9_meets := s_X9_meets ⟨rfl, rfl⟩
def r_X9_packed : Room := { frames := 0, cells := 0, slots := 0, locals := 0 }
def K_X9_packed : am_T := WP_X9_packed
theorem k_X9_packed : am_S false yX9_packed (am_ws yX9_packed cX9_packed 1 (some .int)) r_X9_packed K_X9_packed := s_X9_packed ⟨rfl, rfl⟩
def r_X9_manyOf : Room := { frames := 0, cells := 0, slots := 0, locals := 0 }
def K_X9_manyOf : am_T := WP_X9_manyOf
theorem k_X9_manyOf : am_S false yX9_manyOf (am_ws yX9_manyOf cX9_manyOf 1 (some .int)) r_X9_manyOf K_X9_manyOf := s_X9_manyOf ⟨rfl, rfl⟩
def r_X9_costOf : Room := { frames := 0, cells := 0, slots := 0, locals := 0 }
def K_X9_costOf : am_T := WP_X9_costOf
theorem k_X9_costOf : am_S false yX9_costOf (am_ws yX9_costOf cX9_costOf 1 (some .int)) r_X9_costOf K_X9_costOf := s_X9_costOf ⟨rfl, rfl⟩
def r_X9_spells : Room := { frames := 1, cells := 0, slots := 0, locals := 21 }
def K_X9_spells : am_T := WP_X9_spells K_X9_letter
theorem k_X9_spells : am_S false yX9_spells (am_ws yX9_spells cX9_spells 7 (some .boolean)) r_X9_spells K_X9_spells := s_X9_spells k_X9_letter ⟨rfl, rfl⟩ ⟨Nat.le_of_ble_eq_true rfl, Nat.le_of_ble_eq_true rfl⟩
def r_X9_oneWord : Room := { frames := 2, cells := 0, slots := 0, locals := 47 }
def K_X9_oneWord : am_T := WP_X9_oneWord K_X9_spells K_X9_meets K_X9_isOf
theorem k_X9_oneWord : am_S false yX9_oneWord (am_ws yX9_oneWord cX9_oneWord 3 none) r_X9_oneWord K_X9_oneWord := s_X9_oneWord k_X9_spells k_X9_meets k_X9_isOf ⟨rfl, rfl⟩ ⟨Nat.le_of_ble_eq_true rfl, Nat.le_of_ble_eq_true rfl⟩ ⟨Nat.le_of_ble_eq_true rfl, Nat.le_of_ble_eq_true rfl⟩ ⟨Nat.le_of_ble_eq_true rfl, Nat.le_of_ble_eq_true rfl⟩
def r_X9_joins : Room := { frames := 0, cells := 0, slots := 0, locals := 0 }
def K_X9_joins : am_T := WP_X9_joins
theorem k_X9_joins : am_S false yX9_joins (am_ws yX9_joins cX9_joins 5 none) r_X9_joins K_X9_joins := s_X9_joins ⟨rfl, rfl⟩
def r_X9_isStirred : Room := { frames := 1, cells := 0, slots := 0, locals := 21 }
def K_X9_isStirred : am_T := WP_X9_isStirred K_X9_letter
theorem k_X9_isStirred : am_S false yX9_isStirred (am_ws yX9_isStirred cX9_isStirred 5 (some .boolean)) r_X9_isStirred K_X9_isStirred := s_X9_isStirred k_X9_letter ⟨rfl, rfl⟩ ⟨Nat.le_of_ble_eq_true rfl, Nat.le_of_ble_eq_true rfl⟩
def r_X9_turned : Room := { frames := 3, cells := 0, slots := 0, locals := 70 }
def K_X9_turned : am_T := WP_X9_turned K_X9_isSign K_X9_piecesAt K_X9_manyOf K_X9_costOf K_X9_meets
theorem k_X9_turned : am_S false yX9_turned (am_ws yX9_turned cX9_turned 6 none) r_X9_turned K_X9_turned := s_X9_turned k_X9_isSign k_X9_piecesAt k_X9_manyOf k_X9_costOf k_X9_meets ⟨rfl, rfl⟩ ⟨Nat.le_of_ble_eq_true rfl, Nat.le_of_ble_eq_true rfl⟩ ⟨Nat.le_of_ble_eq_true rfl, Nat.le_of_ble_eq_true rfl⟩ ⟨Nat.le_of_ble_eq_true rfl, Nat.le_of_ble_eq_true rfl⟩ ⟨Nat.le_of_ble_eq_true rfl, Nat.le_of_ble_eq_true rfl⟩ ⟨Nat.le_of_ble_eq_true rfl, Nat.le_of_ble_eq_true rfl⟩
def r_X9_stirred : Room := { frames := 3, cells := 0, slots := 0, locals := 70 }
def K_X9_stirred : am_T := WP_X9_stirred K_X9_joins K_X9_isSign K_X9_isStirred K_X9_meets
theorem k_X9_stirred : am_S false yX9_stirred (am_ws yX9_stirred cX9_stirred 3 none) r_X9_stirred K_X9_stirred := s_X9_stirred k_X9_joins k_X9_isSign k_X9_isStirred k_X9_meets ⟨rfl, rfl⟩ ⟨Nat.le_of_ble_eq_true rfl, Nat.le_of_ble_eq_true rfl⟩ ⟨Nat.le_of_ble_eq_true rfl, Nat.le_of_ble_eq_true rfl⟩ ⟨Nat.le_of_ble_eq_true rfl, Nat.le_of_ble_eq_true rfl⟩ ⟨Nat.le_of_ble_eq_true rfl, Nat.le_of_ble_eq_true rfl⟩
def r_X9_put : Room := { frames := 3, cells := 0, slots := 0, locals := 70 }
def K_X9_put : am_T := WP_X9_put K_X9_isSign K_X9_part K_X9_piecesAt K_X9_manyOf K_X9_costOf K_X9_meets
theorem k_X9_put : am_S false yX9_put (am_ws yX9_put cX9_put 12 none) r_X9_put K_X9_put := s_X9_put k_X9_isSign k_X9_part k_X9_piecesAt k_X9_manyOf k_X9_costOf k_X9_meets ⟨rfl, rfl⟩ ⟨Nat.le_of_ble_eq_true rfl, Nat.le_of_ble_eq_true rfl⟩ ⟨Nat.le_of_ble_eq_true rfl, Nat.le_of_ble_eq_true rfl⟩ ⟨Nat.le_of_ble_eq_true rfl, Nat.le_of_ble_eq_true rfl⟩ ⟨Nat.le_of_ble_eq_true rfl, Nat.le_of_ble_eq_true rfl⟩ ⟨Nat.le_of_ble_eq_true rfl, Nat.le_of_ble_eq_true rfl⟩ ⟨Nat.le_of_ble_eq_true rfl, Nat.le_of_ble_eq_true rfl⟩
def r_X9_hidden : Room := { frames := 3, cells := 0, slots := 0, locals := 70 }
def K_X9_hidden : am_T := WP_X9_hidden K_X9_isSign K_X9_joins K_X9_letter K_X9_meets
theorem k_X9_hidden : am_S false yX9_hidden (am_ws yX9_hidden cX9_hidden 8 none) r_X9_hidden K_X9_hidden := s_X9_hidden k_X9_isSign k_X9_joins k_X9_letter k_X9_meets ⟨rfl, rfl⟩ ⟨Nat.le_of_ble_eq_true rfl, Nat.le_of_ble_eq_true rfl⟩ ⟨Nat.le_of_ble_eq_true rfl, Nat.le_of_ble_eq_true rfl⟩ ⟨Nat.le_of_ble_eq_true rfl, Nat.le_of_ble_eq_true rfl⟩ ⟨Nat.le_of_ble_eq_true rfl, Nat.le_of_ble_eq_true rfl⟩
def r_X9_cuts : Room := { frames := 3, cells := 0, slots := 0, locals := 70 }
def K_X9_cuts : am_T := WP_X9_cuts K_X9_isSign K_X9_spells K_X9_meets K_X9_isOf
theorem k_X9_cuts : am_S false yX9_cuts (am_ws yX9_cuts cX9_cuts 6 none) r_X9_cuts K_X9_cuts := s_X9_cuts k_X9_isSign k_X9_spells k_X9_meets k_X9_isOf ⟨rfl, rfl⟩ ⟨Nat.le_of_ble_eq_true rfl, Nat.le_of_ble_eq_true rfl⟩ ⟨Nat.le_of_ble_eq_true rfl, Nat.le_of_ble_eq_true rfl⟩ ⟨Nat.le_of_ble_eq_true rfl, Nat.le_of_ble_eq_true rfl⟩ ⟨Nat.le_of_ble_eq_true rfl, Nat.le_of_ble_eq_true rfl⟩
def r_X9_firsts : Room := { frames := 3, cells := 0, slots := 0, locals := 70 }
def K_X9_firsts : am_T := WP_X9_firsts K_X9_isSign K_X9_letter K_X9_meets
theorem k_X9_firsts : am_S false yX9_firsts (am_ws yX9_firsts cX9_firsts 5 none) r_X9_firsts K_X9_firsts := s_X9_firsts k_X9_isSign k_X9_letter k_X9_meets ⟨rfl, rfl⟩ ⟨Nat.le_of_ble_eq_true rfl, Nat.le_of_ble_eq_true rfl⟩ ⟨Nat.le_of_ble_eq_true rfl, Nat.le_of_ble_eq_true rfl⟩ ⟨Nat.le_of_ble_eq_true rfl, Nat.le_of_ble_eq_true rfl⟩
def r_X9_unitsOf : Room := { frames := 4, cells := 0, slots := 0, locals := 101 }
def K_X9_unitsOf : am_T := WP_X9_unitsOf K_X9_lays K_X9_opens K_X9_oneWord K_X9_turned K_X9_stirred K_X9_put K_X9_hidden K_X9_cuts K_X9_firsts
theorem k_X9_unitsOf : am_S false yX9_unitsOf (am_ws yX9_unitsOf cX9_unitsOf 5 none) r_X9_unitsOf K_X9_unitsOf := s_X9_unitsOf k_X9_lays k_X9_opens k_X9_oneWord k_X9_turned k_X9_stirred k_X9_put k_X9_hidden k_X9_cuts k_X9_firsts ⟨rfl, rfl⟩ ⟨Nat.le_of_ble_eq_true rfl, Nat.le_of_ble_eq_true rfl⟩ ⟨Nat.le_of_ble_eq_true rfl, Nat.le_of_ble_eq_true rfl⟩ ⟨Nat.le_of_ble_eq_true rfl, Nat.le_of_ble_eq_true rfl⟩ ⟨Nat.le_of_ble_eq_true rfl, Nat.le_of_ble_eq_true rfl⟩ ⟨Nat.le_of_ble_eq_true rfl, Nat.le_of_ble_eq_true rfl⟩ ⟨Nat.le_of_ble_eq_true rfl, Nat.le_of_ble_eq_true rfl⟩ ⟨Nat.le_of_ble_eq_true rfl, Nat.le_of_ble_eq_true rfl⟩ ⟨Nat.le_of_ble_eq_true rfl, Nat.le_of_ble_eq_true rfl⟩ ⟨Nat.le_of_ble_eq_true rfl, Nat.le_of_ble_eq_true rfl⟩
def r_X9_piecesOf : Room := { frames := 2, cells := 0, slots := 0, locals := 47 }
def K_X9_piecesOf : am_T := WP_X9_piecesOf K_X9_lays K_X9_opens K_X9_unitsAt K_X9_manyOf K_X9_costOf K_X9_meets K_X9_part K_X9_piecesAt
theorem k_X9_piecesOf : am_S false yX9_piecesOf (am_ws yX9_piecesOf cX9_piecesOf 10 none) r_X9_piecesOf K_X9_piecesOf := s_X9_piecesOf k_X9_lays k_X9_opens k_X9_unitsAt k_X9_manyOf k_X9_costOf k_X9_meets k_X9_part k_X9_piecesAt ⟨rfl, rfl⟩ ⟨Nat.le_of_ble_eq_true rfl, Nat.le_of_ble_eq_true rfl⟩ ⟨Nat.le_of_ble_eq_true rfl, Nat.le_of_ble_eq_true rfl⟩ ⟨Nat.le_of_ble_eq_true rfl, Nat.le_of_ble_eq_true rfl⟩ ⟨Nat.le_of_ble_eq_true rfl, Nat.le_of_ble_eq_true rfl⟩ ⟨Nat.le_of_ble_eq_true rfl, Nat.le_of_ble_eq_true rfl⟩ ⟨Nat.le_of_ble_eq_true rfl, Nat.le_of_ble_eq_true rfl⟩ ⟨Nat.le_of_ble_eq_true rfl, Nat.le_of_ble_eq_true rfl⟩ ⟨Nat.le_of_ble_eq_true rfl, Nat.le_of_ble_eq_true rfl⟩
def r_X9_anySign : Room := { frames := 3, cells := 0, slots := 0, locals := 70 }
def K_X9_anySign : am_T := WP_X9_anySign K_X9_isSign
theorem k_X9_anySign : am_S false yX9_anySign (am_ws yX9_anySign cX9_anySign 4 (some .boolean)) r_X9_anySign K_X9_anySign := s_X9_anySign k_X9_isSign ⟨rfl, rfl⟩ ⟨Nat.le_of_ble_eq_true rfl, Nat.le_of_ble_eq_true rfl⟩
def r_X9_runsOf : Room := { frames := 0, cells := 0, slots := 0, locals := 0 }
def K_X9_runsOf : am_T := WP_X9_runsOf
theorem k_X9_runsOf : am_S false yX9_runsOf (am_ws yX9_runsOf cX9_runsOf 3 (some .int)) r_X9_runsOf K_X9_runsOf := s_X9_runsOf ⟨rfl, rfl⟩
def r_X9_measures : Room := { frames := 5, cells := 0, slots := 0, locals := 125 }
def K_X9_measures : am_T := WP_X9_measures K_X9_anySign K_X9_runsOf K_X9_unitsOf K_X9_spot K_X9_packed K_X9_piecesOf
theorem k_X9_measures : am_S false yX9_measures (am_ws yX9_measures cX9_measures 11 none) r_X9_measures K_X9_measures := s_X9_measures k_X9_anySign k_X9_runsOf k_X9_unitsOf k_X9_spot k_X9_packed k_X9_piecesOf ⟨rfl, rfl⟩ ⟨Nat.le_of_ble_eq_true rfl, Nat.le_of_ble_eq_true rfl⟩ ⟨Nat.le_of_ble_eq_true rfl, Nat.le_of_ble_eq_true rfl⟩ ⟨Nat.le_of_ble_eq_true rfl, Nat.le_of_ble_eq_true rfl⟩ ⟨Nat.le_of_ble_eq_true rfl, Nat.le_of_ble_eq_true rfl⟩ ⟨Nat.le_of_ble_eq_true rfl, Nat.le_of_ble_eq_true rfl⟩ ⟨Nat.le_of_ble_eq_true rfl, Nat.le_of_ble_eq_true rfl⟩
def r_X9_isGiven : Room := { frames := 2, cells := 0, slots := 0, locals := 47 }
def K_X9_isGiven : am_T := WP_X9_isGiven K_X9_isOf K_X9_isLike
theorem k_X9_isGiven : am_S false yX9_isGiven (am_ws yX9_isGiven cX9_isGiven 3 (some .boolean)) r_X9_isGiven K_X9_isGiven := s_X9_isGiven k_X9_isOf k_X9_isLike ⟨rfl, rfl⟩ ⟨Nat.le_of_ble_eq_true rfl, Nat.le_of_ble_eq_true rfl⟩ ⟨Nat.le_of_ble_eq_true rfl, Nat.le_of_ble_eq_true rfl⟩
def r_X9_parsesOf : Room := { frames := 3, cells := 0, slots := 0, locals := 70 }
def K_X9_parsesOf : am_T := WP_X9_parsesOf K_X9_opens K_X9_isGiven K_X9_isSign K_X9_piecesAt K_X9_manyOf K_X9_costOf K_X9_meets
theorem k_X9_parsesOf : am_S false yX9_parsesOf (am_ws yX9_parsesOf cX9_parsesOf 8 none) r_X9_parsesOf K_X9_parsesOf := s_X9_parsesOf k_X9_opens k_X9_isGiven k_X9_isSign k_X9_piecesAt k_X9_manyOf k_X9_costOf k_X9_meets ⟨rfl, rfl⟩ ⟨Nat.le_of_ble_eq_true rfl, Nat.le_of_ble_eq_true rfl⟩ ⟨Nat.le_of_ble_eq_true rfl, Nat.le_of_ble_eq_true rfl⟩ ⟨Nat.le_of_ble_eq_true rfl, Nat.le_of_ble_eq_true rfl⟩ ⟨Nat.le_of_ble_eq_true rfl, Nat.le_of_ble_eq_true rfl⟩ ⟨Nat.le_of_ble_eq_true rfl, Nat.le_of_ble_eq_true rfl⟩ ⟨Nat.le_of_ble_eq_true rfl, Nat.le_of_ble_eq_true rfl⟩ ⟨Nat.le_of_ble_eq_true rfl, Nat.le_of_ble_eq_true rfl⟩
def r_X9_parses : Room := { frames := 6, cells := 0, slots := 0, locals := 155 }
def K_X9_parses : am_T := WP_X9_parses K_X9_measures K_X9_parsesOf
theorem k_X9_parses : am_S false yX9_parses (am_ws yX9_parses cX9_parses 1 (some .int)) r_X9_parses K_X9_parses := s_X9_parses k_X9_measures k_X9_parsesOf ⟨rfl, rfl⟩ ⟨Nat.le_of_ble_eq_true rfl, Nat.le_of_ble_eq_true rfl⟩ ⟨Nat.le_of_ble_eq_true rfl, Nat.le_of_ble_eq_true rfl⟩
def r_X9_cost : Room := { frames := 6, cells := 0, slots := 0, locals := 155 }
def K_X9_cost : am_T := WP_X9_cost K_X9_measures K_X9_parsesOf
theorem k_X9_cost : am_S false yX9_cost (am_ws yX9_cost cX9_cost 1 (some .int)) r_X9_cost K_X9_cost := s_X9_cost k_X9_measures k_X9_parsesOf ⟨rfl, rfl⟩ ⟨Nat.le_of_ble_eq_true rfl, Nat.le_of_ble_eq_true rfl⟩ ⟨Nat.le_of_ble_eq_true rfl, Nat.le_of_ble_eq_true rfl⟩
def r_X9_cheapest : Room := { frames := 6, cells := 0, slots := 0, locals := 155 }
def K_X9_cheapest : am_T := WP_X9_cheapest K_X9_measures K_X9_parsesOf
theorem k_X9_cheapest : am_S false yX9_cheapest (am_ws yX9_cheapest cX9_cheapest 1 (some .int)) r_X9_cheapest K_X9_cheapest := s_X9_cheapest k_X9_measures k_X9_parsesOf ⟨rfl, rfl⟩ ⟨Nat.le_of_ble_eq_true rfl, Nat.le_of_ble_eq_true rfl⟩ ⟨Nat.le_of_ble_eq_true rfl, Nat.le_of_ble_eq_true rfl⟩
def r_X9_says : Room := { frames := 0, cells := 0, slots := 0, locals := 0 }
def K_X9_says : am_T := WP_X9_says
theorem k_X9_says : am_S false yX9_says (am_ws yX9_says cX9_says 2 none) r_X9_says K_X9_says := s_X9_says ⟨rfl, rfl⟩
def r_X9_saysRow : Room := { frames := 1, cells := 0, slots := 0, locals := 21 }
def K_X9_saysRow : am_T := WP_X9_saysRow K_X9_says
theorem k_X9_saysRow : am_S false yX9_saysRow (am_ws yX9_saysRow cX9_saysRow 4 none) r_X9_saysRow K_X9_saysRow := s_X9_saysRow k_X9_says ⟨rfl, rfl⟩ ⟨Nat.le_of_ble_eq_true rfl, Nat.le_of_ble_eq_true rfl⟩
def r_X9_pushes : Room := { frames := 0, cells := 0, slots := 0, locals := 0 }
def K_X9_pushes : am_T := WP_X9_pushes
theorem k_X9_pushes : am_S false yX9_pushes (am_ws yX9_pushes cX9_pushes 2 none) r_X9_pushes K_X9_pushes := s_X9_pushes ⟨rfl, rfl⟩
def r_X9_state : Room := { frames := 0, cells := 0, slots := 0, locals := 0 }
def K_X9_state : am_T := WP_X9_state
theorem k_X9_state : am_S false yX9_state (am_ws yX9_state cX9_state 5 (some .int)) r_X9_state K_X9_state := s_X9_state ⟨rfl, rfl⟩
def r_X9_saysJoined : Room := { frames := 2, cells := 0, slots := 0, locals := 44 }
def K_X9_saysJoined : am_T := WP_X9_saysJoined K_X9_saysRow
theorem k_X9_saysJoined : am_S false yX9_saysJoined (am_ws yX9_saysJoined cX9_saysJoined 4 none) r_X9_saysJoined K_X9_saysJoined := s_X9_saysJoined k_X9_saysRow ⟨rfl, rfl⟩ ⟨Nat.le_of_ble_eq_true rfl, Nat.le_of_ble_eq_true rfl⟩
def r_X9_saysUnit : Room := { frames := 5, cells := 0, slots := 0, locals := 125 }
def K_X9_saysUnit : am_T := WP_X9_saysUnit K_X9_unitsOf K_X9_saysRow K_X9_says K_X9_letterOf K_X9_pushes K_X9_saysJoined K_X9_part K_X9_state
theorem k_X9_saysUnit : am_S false yX9_saysUnit (am_ws yX9_saysUnit cX9_saysUnit 7 none) r_X9_saysUnit K_X9_saysUnit := s_X9_saysUnit k_X9_unitsOf k_X9_saysRow k_X9_says k_X9_letterOf k_X9_pushes k_X9_saysJoined k_X9_part k_X9_state ⟨rfl, rfl⟩ ⟨Nat.le_of_ble_eq_true rfl, Nat.le_of_ble_eq_true rfl⟩ ⟨Nat.le_of_ble_eq_true rfl, Nat.le_of_ble_eq_true rfl⟩ ⟨Nat.le_of_ble_eq_true rfl, Nat.le_of_ble_eq_true rfl⟩ ⟨Nat.le_of_ble_eq_true rfl, Nat.le_of_ble_eq_true rfl⟩ ⟨Nat.le_of_ble_eq_true rfl, Nat.le_of_ble_eq_true rfl⟩ ⟨Nat.le_of_ble_eq_true rfl, Nat.le_of_ble_eq_true rfl⟩ ⟨Nat.le_of_ble_eq_true rfl, Nat.le_of_ble_eq_true rfl⟩ ⟨Nat.le_of_ble_eq_true rfl, Nat.le_of_ble_eq_true rfl⟩
def r_X9_saysPiece : Room := { frames := 3, cells := 0, slots := 0, locals := 76 }
def K_X9_saysPiece : am_T := WP_X9_saysPiece K_X9_piecesOf K_X9_part K_X9_state K_X9_pushes
theorem k_X9_saysPiece : am_S false yX9_saysPiece (am_ws yX9_saysPiece cX9_saysPiece 7 none) r_X9_saysPiece K_X9_saysPiece := s_X9_saysPiece k_X9_piecesOf k_X9_part k_X9_state k_X9_pushes ⟨rfl, rfl⟩ ⟨Nat.le_of_ble_eq_true rfl, Nat.le_of_ble_eq_true rfl⟩ ⟨Nat.le_of_ble_eq_true rfl, Nat.le_of_ble_eq_true rfl⟩ ⟨Nat.le_of_ble_eq_true rfl, Nat.le_of_ble_eq_true rfl⟩ ⟨Nat.le_of_ble_eq_true rfl, Nat.le_of_ble_eq_true rfl⟩
def r_X9_saysAll : Room := { frames := 6, cells := 0, slots := 0, locals := 155 }
def K_X9_saysAll : am_T := WP_X9_saysAll K_X9_measures K_X9_parsesOf K_X9_says K_X9_saysRow K_X9_state K_X9_pushes K_X9_saysUnit K_X9_saysPiece
theorem k_X9_saysAll : am_S false yX9_saysAll (am_ws yX9_saysAll cX9_saysAll 7 none) r_X9_saysAll K_X9_saysAll := s_X9_saysAll k_X9_measures k_X9_parsesOf k_X9_says k_X9_saysRow k_X9_state k_X9_pushes k_X9_saysUnit k_X9_saysPiece ⟨rfl, rfl⟩ ⟨Nat.le_of_ble_eq_true rfl, Nat.le_of_ble_eq_true rfl⟩ ⟨Nat.le_of_ble_eq_true rfl, Nat.le_of_ble_eq_true rfl⟩ ⟨Nat.le_of_ble_eq_true rfl, Nat.le_of_ble_eq_true rfl⟩ ⟨Nat.le_of_ble_eq_true rfl, Nat.le_of_ble_eq_true rfl⟩ ⟨Nat.le_of_ble_eq_true rfl, Nat.le_of_ble_eq_true rfl⟩ ⟨Nat.le_of_ble_eq_true rfl, Nat.le_of_ble_eq_true rfl⟩ ⟨Nat.le_of_ble_eq_true rfl, Nat.le_of_ble_eq_true rfl⟩ ⟨Nat.le_of_ble_eq_true rfl, Nat.le_of_ble_eq_true rfl⟩
def r_X9_first : Room := { frames := 7, cells := 0, slots := 0, locals := 181 }
def K_X9_first : am_T := WP_X9_first K_X9_saysAll
theorem k_X9_first : am_S false yX9_first (am_ws yX9_first cX9_first 2 (some .int)) r_X9_first K_X9_first := s_X9_first k_X9_saysAll ⟨rfl, rfl⟩ ⟨Nat.le_of_ble_eq_true rfl, Nat.le_of_ble_eq_true rfl⟩
def r_X9_isPart : Room := { frames := 2, cells := 0, slots := 0, locals := 43 }
def K_X9_isPart : am_T := WP_X9_isPart K_X9_isWord K_X9_isIn
theorem k_X9_isPart : am_S false yX9_isPart (am_ws yX9_isPart cX9_isPart 5 (some .boolean)) r_X9_isPart K_X9_isPart := s_X9_isPart k_X9_isWord k_X9_isIn ⟨rfl, rfl⟩ ⟨Nat.le_of_ble_eq_true rfl, Nat.le_of_ble_eq_true rfl⟩ ⟨Nat.le_of_ble_eq_true rfl, Nat.le_of_ble_eq_true rfl⟩
def r_X9_pieces : Room := { frames := 6, cells := 0, slots := 0, locals := 155 }
def K_X9_pieces : am_T := WP_X9_pieces K_X9_isPart K_X9_measures K_X9_piecesAt K_X9_manyOf
theorem k_X9_pieces : am_S false yX9_pieces (am_ws yX9_pieces cX9_pieces 5 (some .int)) r_X9_pieces K_X9_pieces := s_X9_pieces k_X9_isPart k_X9_measures k_X9_piecesAt k_X9_manyOf ⟨rfl, rfl⟩ ⟨Nat.le_of_ble_eq_true rfl, Nat.le_of_ble_eq_true rfl⟩ ⟨Nat.le_of_ble_eq_true rfl, Nat.le_of_ble_eq_true rfl⟩ ⟨Nat.le_of_ble_eq_true rfl, Nat.le_of_ble_eq_true rfl⟩ ⟨Nat.le_of_ble_eq_true rfl, Nat.le_of_ble_eq_true rfl⟩
def r_X9_pieceCost : Room := { frames := 6, cells := 0, slots := 0, locals := 155 }
def K_X9_pieceCost : am_T := WP_X9_pieceCost K_X9_isPart K_X9_measures K_X9_piecesAt K_X9_costOf
theorem k_X9_pieceCost : am_S false yX9_pieceCost (am_ws yX9_pieceCost cX9_pieceCost 6 (some .int)) r_X9_pieceCost K_X9_pieceCost := s_X9_pieceCost k_X9_isPart k_X9_measures k_X9_piecesAt k_X9_costOf ⟨rfl, rfl⟩ ⟨Nat.le_of_ble_eq_true rfl, Nat.le_of_ble_eq_true rfl⟩ ⟨Nat.le_of_ble_eq_true rfl, Nat.le_of_ble_eq_true rfl⟩ ⟨Nat.le_of_ble_eq_true rfl, Nat.le_of_ble_eq_true rfl⟩ ⟨Nat.le_of_ble_eq_true rfl, Nat.le_of_ble_eq_true rfl⟩
def r_X9_units : Room := { frames := 6, cells := 0, slots := 0, locals := 155 }
def K_X9_units : am_T := WP_X9_units K_X9_isPart K_X9_measures K_X9_unitsAt K_X9_manyOf
theorem k_X9_units : am_S false yX9_units (am_ws yX9_units cX9_units 5 (some .int)) r_X9_units K_X9_units := s_X9_units k_X9_isPart k_X9_measures k_X9_unitsAt k_X9_manyOf ⟨rfl, rfl⟩ ⟨Nat.le_of_ble_eq_true rfl, Nat.le_of_ble_eq_true rfl⟩ ⟨Nat.le_of_ble_eq_true rfl, Nat.le_of_ble_eq_true rfl⟩ ⟨Nat.le_of_ble_eq_true rfl, Nat.le_of_ble_eq_true rfl⟩ ⟨Nat.le_of_ble_eq_true rfl, Nat.le_of_ble_eq_true rfl⟩
def r_X9_isOffer : Room := { frames := 2, cells := 0, slots := 0, locals := 47 }
def K_X9_isOffer : am_T := WP_X9_isOffer K_X9_isOf K_X9_isLike
theorem k_X9_isOffer : am_S false yX9_isOffer (am_ws yX9_isOffer cX9_isOffer 4 (some .boolean)) r_X9_isOffer K_X9_isOffer := s_X9_isOffer k_X9_isOf k_X9_isLike ⟨rfl, rfl⟩ ⟨Nat.le_of_ble_eq_true rfl, Nat.le_of_ble_eq_true rfl⟩ ⟨Nat.le_of_ble_eq_true rfl, Nat.le_of_ble_eq_true rfl⟩
def r_X9_offer : Room := { frames := 3, cells := 0, slots := 0, locals := 70 }
def K_X9_offer : am_T := WP_X9_offer K_X9_isOffer
theorem k_X9_offer : am_S false yX9_offer (am_ws yX9_offer cX9_offer 4 (some .int)) r_X9_offer K_X9_offer := s_X9_offer k_X9_isOffer ⟨rfl, rfl⟩ ⟨Nat.le_of_ble_eq_true rfl, Nat.le_of_ble_eq_true rfl⟩
def r_X9_goalIs : Room := { frames := 0, cells := 0, slots := 0, locals := 0 }
def K_X9_goalIs : am_T := WP_X9_goalIs
theorem k_X9_goalIs : am_S false yX9_goalIs (am_ws yX9_goalIs cX9_goalIs 4 none) r_X9_goalIs K_X9_goalIs := s_X9_goalIs ⟨rfl, rfl⟩
def r_X9_ifOffer : Room := { frames := 7, cells := 0, slots := 0, locals := 175 }
def K_X9_ifOffer : am_T := WP_X9_ifOffer K_X9_offer K_X9_isIn K_X9_goalIs K_X9_parses K_X9_cost
theorem k_X9_ifOffer : am_S false yX9_ifOffer (am_ws yX9_ifOffer cX9_ifOffer 5 (some .int)) r_X9_ifOffer K_X9_ifOffer := s_X9_ifOffer k_X9_offer k_X9_isIn k_X9_goalIs k_X9_parses k_X9_cost ⟨rfl, rfl⟩ ⟨Nat.le_of_ble_eq_true rfl, Nat.le_of_ble_eq_true rfl⟩ ⟨Nat.le_of_ble_eq_true rfl, Nat.le_of_ble_eq_true rfl⟩ ⟨Nat.le_of_ble_eq_true rfl, Nat.le_of_ble_eq_true rfl⟩ ⟨Nat.le_of_ble_eq_true rfl, Nat.le_of_ble_eq_true rfl⟩ ⟨Nat.le_of_ble_eq_true rfl, Nat.le_of_ble_eq_true rfl⟩
def r_X9_take : Room := { frames := 4, cells := 0, slots := 0, locals := 93 }
def K_X9_take : am_T := WP_X9_take K_X9_offer K_X9_isLike K_X9_goalIs
theorem k_X9_take : am_S false yX9_take (am_ws yX9_take cX9_take 3 (some .int)) r_X9_take K_X9_take := s_X9_take k_X9_offer k_X9_isLike k_X9_goalIs ⟨rfl, rfl⟩ ⟨Nat.le_of_ble_eq_true rfl, Nat.le_of_ble_eq_true rfl⟩ ⟨Nat.le_of_ble_eq_true rfl, Nat.le_of_ble_eq_true rfl⟩ ⟨Nat.le_of_ble_eq_true rfl, Nat.le_of_ble_eq_true rfl⟩
def r_X9_without1 : Room := { frames := 7, cells := 0, slots := 0, locals := 175 }
def K_X9_without1 : am_T := WP_X9_without1 K_X9_parses
theorem k_X9_without1 : am_S false yX9_without1 (am_ws yX9_without1 cX9_without1 3 (some .int)) r_X9_without1 K_X9_without1 := s_X9_without1 k_X9_parses ⟨rfl, rfl⟩ ⟨Nat.le_of_ble_eq_true rfl, Nat.le_of_ble_eq_true rfl⟩
def r_X9_without : Room := { frames := 8, cells := 0, slots := 0, locals := 197 }
def K_X9_without : am_T := WP_X9_without K_X9_isEntry K_X9_without1
theorem k_X9_without : am_S false yX9_without (am_ws yX9_without cX9_without 2 (some .int)) r_X9_without K_X9_without := s_X9_without k_X9_isEntry k_X9_without1 ⟨rfl, rfl⟩ ⟨Nat.le_of_ble_eq_true rfl, Nat.le_of_ble_eq_true rfl⟩ ⟨Nat.le_of_ble_eq_true rfl, Nat.le_of_ble_eq_true rfl⟩
def r_X9_count : Room := { frames := 8, cells := 0, slots := 0, locals := 197 }
def K_X9_count : am_T := WP_X9_count K_X9_offer K_X9_parses K_X9_without1
theorem k_X9_count : am_S false yX9_count (am_ws yX9_count cX9_count 6 (some .int)) r_X9_count K_X9_count := s_X9_count k_X9_offer k_X9_parses k_X9_without1 ⟨rfl, rfl⟩ ⟨Nat.le_of_ble_eq_true rfl, Nat.le_of_ble_eq_true rfl⟩ ⟨Nat.le_of_ble_eq_true rfl, Nat.le_of_ble_eq_true rfl⟩ ⟨Nat.le_of_ble_eq_true rfl, Nat.le_of_ble_eq_true rfl⟩
