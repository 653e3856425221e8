/-! THE ANSWERS of date, printed by program -/
section DAT
end DAT
