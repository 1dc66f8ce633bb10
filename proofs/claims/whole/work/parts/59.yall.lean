/-! the reference's resolving as a whole -/
section
variable {y_types y_byteCount y_writtenCount y_numberCount y_listCount y_values y_depth y_records y_at y_wrong y_todo : Int32}
variable {y_kind y_of y_parts y_fallback y_name y_part y_alias y_given y_has y_bytes y_written y_valueType y_start y_child y_last y_next y_open y_come y_left y_todoValue y_todoType y_todoDefault y_pair y_whole : Nat → Int32}
variable {y_numbers y_list y_value : Nat → Int64}
variable {g : sg_T} {w : sr_V} {post : SY → Prop} {r : Nat}
theorem yl_resolve (hg : sg_ok g) (hY : sg_Y g y_of y_name y_part y_alias y_has y_given) (hw : sv_ok g w) (ht : sy_tree g w y_valueType y_start y_child y_next y_value) (hr : r < sg_n g) (h0 : 0 < sv_m w) (ha0 : sv_a w 0 ≤ 400) (hd0 : sv_d w 0 = 0) {c1 : List sr_I} {d1 : Nat} {L1 : List Int64} {e : Int32} (hc : sr_cert g w [(0, 0, r, 0)] 0 [] c1 d1 L1) (hfin : sr_fin g w c1 d1 L1 e)
    (H0 : e = 0 → ∀ (a : Nat → Int64) (tv tt td : Nat → Int32), sl_is L1 a → L1.length ≤ 150 → post (nI (sg_n g), y_byteCount, y_writtenCount, y_numberCount, nI L1.length, y_values, y_depth, nI d1, y_at, 0, 0, sg_K g, y_of, sg_P g, sg_f g, y_name, y_part, y_alias, y_given, y_has, sv_b w, y_written, y_numbers, a, y_valueType, y_start, y_child, y_last, y_next, y_value, y_open, y_come, y_left, tv, tt, td, y_pair, y_whole))
    (H1 : ¬ e = 0 → ∀ (lc : Int32) (a : Nat → Int64) (todo rc : Int32) (tv tt td : Nat → Int32), post (nI (sg_n g), y_byteCount, y_writtenCount, y_numberCount, lc, y_values, y_depth, rc, y_at, e, todo, sg_K g, y_of, sg_P g, sg_f g, y_name, y_part, y_alias, y_given, y_has, sv_b w, y_written, y_numbers, a, y_valueType, y_start, y_child, y_last, y_next, y_value, y_open, y_come, y_left, tv, tt, td, y_pair, y_whole)) :
    wpY_resolve post (nI (sg_n g), y_byteCount, y_writtenCount, y_numberCount, 0, y_values, y_depth, y_records, y_at, 0, y_todo, sg_K g, y_of, sg_P g, sg_f g, y_name, y_part, y_alias, y_given, y_has, sv_b w, y_written, y_numbers, y_list, y_valueType, y_start, y_child, y_last, y_next, y_value, y_open, y_come, y_left, y_todoValue, y_todoType, y_todoDefault, y_pair, y_whole) (nI r) := by
  have hm4 := hw.1
  have hgood : sr_good g w [(0, 0, r, 0)] 0 := by
    refine ⟨by omega, ⟨fun _ => ⟨h0, hr, hd0⟩, fun z => absurd (show (0 : Nat) = 1 from z) (by decide)⟩, ?_, ?_⟩
    · show 6 * (11 - 0) + (sv_a w 0 - 0) + 0 ≤ 1000
      have := ha0
      omega
    · exact (if_neg (c := (0 : Nat) = 2) (by omega)).mpr trivial
  unfold wpY_resolve
  refine yl_later (T := 0) (by omega) ?_
  obtain ⟨n, hn⟩ := yl_loop hg hY hw ht hc hfin hgood (by decide) H0 H1 y_list (upd y_todoValue 0 0) (upd y_todoType 0 (nI r)) (upd y_todoDefault 0 0) (sl_nil _) ⟨⟨fun _ => ⟨pk_us, pk_us⟩, fun z => absurd (show (0 : Nat) = 1 from z) (by decide), fun z => absurd (show (0 : Nat) = 2 from z) (by decide), fun z => absurd rfl z⟩, trivial⟩
  exact ⟨n, hn⟩
end
