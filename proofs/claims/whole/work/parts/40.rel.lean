/-! the relation -/
def sr_core (g : sg_T) (bc nc lc : Nat) (u : SX) (v : SY) : Prop :=
  match u with
  | (x_typeCount, x_byteCount, x_numberCount, x_listCount, x_trouble, x_place, x_valueCount, x_top, x_records, x_writtenCount, x_pairCount, x_kindOf, x_detailOf, x_fallbackOf, x_partCount, x_partName, x_partType, x_partAlias, x_partHas, x_partDefault, x_bytes, x_numbers, x_list, x_valueType, x_valueNumber, x_valueFrom, x_valueAfter, x_frameValue, x_frameType, x_frameStep, x_frameLeft, x_frameStart, x_addsNothing, x_written, x_pairs, x_pairSeen) => match v with
    | (y_types, y_byteCount, y_writtenCount, y_numberCount, y_listCount, y_values, y_depth, y_records, y_at, y_wrong, y_todo, y_kind, y_of, y_parts, y_fallback, y_name, y_part, y_alias, y_given, y_has, y_bytes, y_written, y_numbers, y_list, y_valueType, y_start, y_child, y_last, y_next, y_value, y_open, y_come, y_left, y_todoValue, y_todoType, y_todoDefault, y_pair, y_whole) =>
      sg_ok g ∧ sg_X g x_detailOf x_partName x_partType x_partAlias x_partHas x_partDefault ∧ sg_Y g y_of y_name y_part y_alias y_has y_given ∧
      bc ≤ 100 ∧ nc ≤ 100 ∧ lc ≤ 150 ∧ True ∧ (∀ i, i < lc → y_list i = x_list i) ∧
      x_typeCount = nI (sg_n g) ∧ y_types = nI (sg_n g) ∧ x_kindOf = sg_K g ∧ y_kind = sg_K g ∧ x_partCount = sg_P g ∧ y_parts = sg_P g ∧ x_fallbackOf = sg_f g ∧ y_fallback = sg_f g ∧
      x_byteCount = nI bc ∧ y_byteCount = nI bc ∧ x_numberCount = nI nc ∧ y_numberCount = nI nc ∧ x_listCount = nI lc ∧ y_listCount = nI lc ∧ y_numbers = x_numbers ∧ y_bytes = x_bytes
def i_Rel (_ : Nat) (u : SX) (v : SY) : Prop := ∃ g bc nc lc, sr_core g bc nc lc u v
theorem i_up {k : Nat} {u : SX} {v : SY} (h : i_Rel k u v) : i_Rel (k + 7) u v := h
