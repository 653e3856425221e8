/-! COMETS AND WORDS counted, printed by program -/
section CNB
end CNB
