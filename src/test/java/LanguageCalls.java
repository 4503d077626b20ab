import java.util.HashMap;
import java.util.HashSet;
import java.util.LinkedHashMap;
import java.util.LinkedHashSet;
import java.util.Map;
import java.util.Set;
import javax.lang.model.element.ExecutableElement;
import javax.lang.model.element.Modifier;
import javax.lang.model.element.TypeElement;
import javax.lang.model.util.Elements;

/** Which own methods call one another, for rules 8 and 11 of ../shared/LANGUAGE.md. */
final class LanguageCalls {
    private final Elements elements;
    private final Map<ExecutableElement, Set<ExecutableElement>> calls = new LinkedHashMap<>();
    private final Set<ExecutableElement> branching = new HashSet<>();
    private final Map<ExecutableElement, Set<ExecutableElement>> called = new HashMap<>();
    private final Map<ExecutableElement, Set<ExecutableElement>> reached = new HashMap<>();
    private final Map<ExecutableElement, Integer> deep = new HashMap<>();

    LanguageCalls(Elements elementsOfTask) {
        elements = elementsOfTask;
    }

    void addMethod(ExecutableElement method) {
        calls.computeIfAbsent(method, m -> new LinkedHashSet<>());
    }

    void addCall(ExecutableElement from, ExecutableElement to) {
        calls.computeIfAbsent(from, m -> new LinkedHashSet<>()).add(to);
    }

    void addBranch(ExecutableElement method) {
        branching.add(method);
    }

    boolean hasBranch(ExecutableElement method) {
        return branching.contains(method);
    }

    Set<ExecutableElement> methods() {
        return calls.keySet();
    }

    /** What a method calls, and what may stand in for that; asked when all methods and calls have been added. */
    private Set<ExecutableElement> calledBy(ExecutableElement method) {
        Set<ExecutableElement> known = called.get(method);
        if (known != null) {
            return known;
        }
        Set<ExecutableElement> all = new LinkedHashSet<>(calls.getOrDefault(method, Set.of()));
        for (ExecutableElement to : Set.copyOf(all)) {
            for (ExecutableElement other : calls.keySet()) {
                if (elements.overrides(other, to, (TypeElement) other.getEnclosingElement())) {
                    all.add(other);
                }
            }
        }
        called.put(method, all);
        return all;
    }

    private Set<ExecutableElement> reachedFrom(ExecutableElement method) {
        Set<ExecutableElement> known = reached.get(method);
        if (known != null) {
            return known;
        }
        Set<ExecutableElement> seen = new LinkedHashSet<>();
        Set<ExecutableElement> next = calledBy(method);
        while (!next.isEmpty()) {
            Set<ExecutableElement> further = new LinkedHashSet<>();
            for (ExecutableElement m : next) {
                if (seen.add(m)) {
                    further.addAll(calledBy(m));
                }
            }
            next = further;
        }
        reached.put(method, seen);
        return seen;
    }

    /** The methods of a recursion that this one stands in, none if it stands in none. */
    private Set<ExecutableElement> recursionOf(ExecutableElement method) {
        Set<ExecutableElement> recursion = new LinkedHashSet<>();
        for (ExecutableElement m : reachedFrom(method)) {
            if (reachedFrom(m).contains(method)) {
                recursion.add(m);
            }
        }
        return recursion;
    }

    /** A recursion through a call of the face, or one that can't but go on. */
    boolean isWrongRecursion(ExecutableElement method) {
        Set<ExecutableElement> recursion = recursionOf(method);
        boolean canEnd = recursion.stream().anyMatch(branching::contains);
        return !recursion.isEmpty() && (!canEnd || isOfFace(method));
    }

    static boolean isOfFace(ExecutableElement method) {
        boolean isOfTheClass = method.getEnclosingElement().getSimpleName().contentEquals("LinenTunnel");
        return isOfTheClass && method.getModifiers().contains(Modifier.PUBLIC);
    }

    /** How many calls stand open at most below this one, a recursion counted as one. */
    int deepBelow(ExecutableElement method) {
        Integer known = deep.get(method);
        if (known != null) {
            return known;
        }
        Set<ExecutableElement> recursion = recursionOf(method);
        int most = 0;
        for (ExecutableElement m : reachedFrom(method)) {
            if (!recursion.contains(m) && isCalledByOne(m, method, recursion)) {
                most = Math.max(most, 1 + deepBelow(m));
            }
        }
        deep.put(method, most);
        return most;
    }

    private boolean isCalledByOne(ExecutableElement to, ExecutableElement method, Set<ExecutableElement> recursion) {
        return calledBy(method).contains(to) || recursion.stream().anyMatch(m -> calledBy(m).contains(to));
    }
}
