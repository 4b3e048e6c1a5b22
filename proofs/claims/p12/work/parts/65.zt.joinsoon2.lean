section ST26
end ST26
