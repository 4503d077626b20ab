import java.util.List;
import java.util.Map;
import java.util.Set;
import javax.lang.model.element.Element;
import javax.lang.model.element.ElementKind;
import javax.lang.model.element.ExecutableElement;
import javax.lang.model.element.Modifier;
import javax.lang.model.element.TypeElement;
import javax.lang.model.element.VariableElement;
import javax.lang.model.type.ArrayType;
import javax.lang.model.type.DeclaredType;
import javax.lang.model.type.TypeKind;
import javax.lang.model.type.TypeMirror;
import javax.lang.model.type.WildcardType;
import javax.lang.model.util.Types;

/** What ../shared/LANGUAGE.md leaves of types (rule 3) and of the library (rule 4). */
final class LanguageLibrary {
    private static final String CLASS = "LinenTunnel";
    private static final int MOST_IN_LIST_OF = 6;
    private static final Set<String> BUILDER = Set.of("append(char)", "append(java.lang.String)", "append(int)",
        "charAt(int)", "setCharAt(int,char)", "setLength(int)", "deleteCharAt(int)", "reverse()", "length()", "toString()");
    private static final Set<String> LIST = Set.of("add(java.lang.Object)", "add(int,java.lang.Object)", "get(int)",
        "set(int,java.lang.Object)", "remove(int)", "size()", "isEmpty()", "clear()");
    private static final Map<String, Set<String>> CALLS = Map.of(
        "java.lang.String", Set.of("length()", "charAt(int)", "isEmpty()", "equals(java.lang.Object)", "indexOf(int)",
            "substring(int)", "substring(int,int)", "toCharArray()"),
        "java.lang.StringBuilder", BUILDER,
        "java.lang.AbstractStringBuilder", BUILDER,
        "java.util.ArrayList", LIST,
        "java.util.List", LIST,
        "java.lang.Integer", Set.of("intValue()", "valueOf(int)"),
        "java.util.Iterator", Set.of("hasNext()", "next()"),
        "java.lang.Iterable", Set.of("iterator()"),
        "java.lang.Comparable", Set.of("compareTo(java.lang.Object)"));
    private static final Set<String> NUMBER_FUNCTIONS = Set.of("java.lang.Integer", "java.lang.Long", "java.lang.Math");
    private static final Set<String> ARRAY_FUNCTIONS = Set.of("copyOf", "copyOfRange", "fill");

    private final Types types;

    LanguageLibrary(Types typesOfTask) {
        types = typesOfTask;
    }

    static boolean isOwn(Element e) {
        Element top = e;
        while (top.getEnclosingElement() != null && top.getEnclosingElement().getKind() != ElementKind.PACKAGE) {
            top = top.getEnclosingElement();
        }
        return top.getSimpleName().contentEquals(CLASS);
    }

    // ---- types

    boolean hasType(TypeMirror type) {
        switch (type.getKind()) {
            case ARRAY: return hasArray(((ArrayType) type).getComponentType());
            case DECLARED: return hasDeclared((DeclaredType) type);
            default: return true;
        }
    }

    private static boolean hasArray(TypeMirror of) {
        if (of instanceof ArrayType row) {
            return isNumber(row.getComponentType());
        }
        return of.getKind().isPrimitive() || of instanceof DeclaredType own && isOwn(own.asElement());
    }

    private boolean hasDeclared(DeclaredType type) {
        List<? extends TypeMirror> told = type.getTypeArguments();
        switch (nameOf(type.asElement())) {
            case "java.lang.String": case "java.lang.StringBuilder": case "java.lang.Integer": case "java.lang.Comparable":
                return true;
            case "java.util.ArrayList": case "java.util.List":
                return told.stream().allMatch(LanguageLibrary::isOwnOrInteger);
            case "java.util.Iterator": case "java.lang.Iterable":
                return told.stream().allMatch(a -> isNamed(a, "java.lang.Integer"));
            default:
                return isOwn(type.asElement()) && told.stream().allMatch(this::hasType);
        }
    }

    /** What a class inside may extend or implement. */
    boolean hasAncestor(TypeMirror type) {
        String name = nameOf(types.asElement(type));
        boolean isListed = Set.of("java.util.Iterator", "java.lang.Iterable", "java.lang.Comparable").contains(name);
        return hasType(type) && (isListed || isOwn(types.asElement(type)));
    }

    boolean isSubtype(TypeMirror type, TypeMirror of) {
        return types.isSubtype(types.erasure(type), types.erasure(of));
    }

    private static boolean isOwnOrInteger(TypeMirror type) {
        if (type instanceof WildcardType wild) {
            TypeMirror bound = wild.getExtendsBound() != null ? wild.getExtendsBound() : wild.getSuperBound();
            return bound == null || isOwnOrInteger(bound);
        }
        boolean isOwnType = type instanceof DeclaredType own && isOwn(own.asElement());
        return type.getKind() == TypeKind.TYPEVAR || isOwnType || isNamed(type, "java.lang.Integer");
    }

    static boolean isNamed(TypeMirror type, String name) {
        return type instanceof DeclaredType told && nameOf(told.asElement()).equals(name);
    }

    static boolean isNumber(TypeMirror type) {
        return type.getKind().isPrimitive() && type.getKind() != TypeKind.BOOLEAN;
    }

    // ---- calls, new objects

    boolean hasCall(ExecutableElement called, TypeMirror receiver) {
        String owner = nameOf(called.getEnclosingElement());
        String name = called.getSimpleName().toString();
        if (receiver != null && receiver.getKind() == TypeKind.ARRAY) {
            return name.equals("clone");
        }
        // super() of a class, a record or an enum that nobody wrote
        if (name.equals("<init>")) {
            return Set.of("java.lang.Object", "java.lang.Record", "java.lang.Enum").contains(owner);
        }
        return CALLS.getOrDefault(owner, Set.of()).contains(signatureOf(called)) || hasFunction(called, owner, name);
    }

    private boolean hasFunction(ExecutableElement called, String owner, String name) {
        List<? extends VariableElement> told = called.getParameters();
        if (!called.getModifiers().contains(Modifier.STATIC)) {
            return false;
        }
        if (NUMBER_FUNCTIONS.contains(owner)) {
            boolean isOverWhole = told.stream().allMatch(p -> isWhole(p.asType()));
            return isOverWhole && isWholeOrBoolean(called.getReturnType()) && !name.endsWith("Exact");
        }
        if (owner.equals("java.util.Arrays")) {
            return ARRAY_FUNCTIONS.contains(name) && told.get(0).asType() instanceof ArrayType row && isNumber(row.getComponentType());
        }
        return owner.equals("java.lang.System") && name.equals("arraycopy")
            || owner.equals("java.util.List") && name.equals("of") && !called.isVarArgs() && told.size() <= MOST_IN_LIST_OF;
    }

    boolean hasNew(ExecutableElement made) {
        String owner = nameOf(made.getEnclosingElement());
        return isOwn(made) || owner.equals("java.lang.StringBuilder") || owner.equals("java.util.ArrayList")
            || owner.equals("java.lang.String") && signatureOf(made).equals("<init>(char[])");
    }

    private String signatureOf(ExecutableElement called) {
        StringBuilder text = new StringBuilder(called.getSimpleName()).append('(');
        for (VariableElement p : called.getParameters()) {
            text.append(text.charAt(text.length() - 1) == '(' ? "" : ",").append(types.erasure(p.asType()));
        }
        return text.append(')').toString();
    }

    private static boolean isWhole(TypeMirror type) {
        return type.getKind() == TypeKind.INT || type.getKind() == TypeKind.LONG;
    }

    private static boolean isWholeOrBoolean(TypeMirror type) {
        return isWhole(type) || type.getKind() == TypeKind.BOOLEAN;
    }

    static String nameOf(Element e) {
        return e instanceof TypeElement type ? type.getQualifiedName().toString() : String.valueOf(e);
    }
}
