/-! PART 62: a new pallet -/
