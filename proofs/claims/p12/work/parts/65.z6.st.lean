section ST17
end ST17
