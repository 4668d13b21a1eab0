theorem rows_ok : RowsOK := sorry
theorem mth_ok : MthOK := sorry
