/-! CONTRACTS of the class, the third part, printed by program -/
section CT4
end CT4
