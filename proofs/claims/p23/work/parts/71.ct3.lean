/-! CONTRACTS of the class, the second part, printed by program -/
section CT3
end CT3
