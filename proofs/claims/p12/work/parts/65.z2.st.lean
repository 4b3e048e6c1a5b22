section ST15
end ST15
