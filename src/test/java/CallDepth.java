import java.util.ArrayList;
import java.util.HashMap;
import java.util.LinkedHashMap;
import java.util.List;
import java.util.Map;
import javax.lang.model.element.Element;
import javax.lang.model.element.ElementKind;
import javax.lang.model.element.ExecutableElement;
import javax.lang.model.element.TypeElement;
import javax.lang.model.util.ElementFilter;
import javax.lang.model.util.Elements;

/** Which method of the source calls which, and how deep that goes. A class stands for what its fields begin with. */
final class CallDepth {
    private record Call(ExecutableElement method, boolean exactly) {
    }

    private final Elements elements;
    private final List<TypeElement> classes = new ArrayList<>();
    private final Map<Element, List<Call>> calls = new LinkedHashMap<>();
    private final Map<Element, List<String>> known = new HashMap<>();
    private final List<String> circles = new ArrayList<>();

    CallDepth(Elements elements) {
        this.elements = elements;
    }

    void hasClass(TypeElement one) {
        classes.add(one);
    }

    /** Exactly: no method that overrides the called one can be meant. */
    void hasCall(Element caller, ExecutableElement called, boolean exactly) {
        calls.computeIfAbsent(caller, key -> new ArrayList<>()).add(new Call(called, exactly));
    }

    /** The methods that are open at once where most of them are, the first one included. */
    List<String> deepest() {
        List<String> deepest = List.of();
        for (Element caller : calls.keySet()) {
            deepest = longer(deepest, from(caller, new ArrayList<>()));
        }
        return deepest;
    }

    /** The methods that come back to themselves, by all that deepest() went through. */
    List<String> circles() {
        return circles;
    }

    private List<String> from(Element method, List<Element> open) {
        if (open.contains(method)) {
            circles.add(name(method));
            return List.of();
        }
        if (!known.containsKey(method)) {
            open.add(method);
            List<String> below = List.of();
            for (Element called : allCalledBy(method)) {
                below = longer(below, from(called, open));
            }
            open.remove(method);
            List<String> all = new ArrayList<>(List.of(name(method)));
            all.addAll(below);
            known.put(method, all);
        }
        return known.get(method);
    }

    private List<Element> allCalledBy(Element method) {
        List<Call> told = new ArrayList<>(calls.getOrDefault(method, List.of()));
        if (method.getKind() == ElementKind.CONSTRUCTOR) {
            told.addAll(calls.getOrDefault(method.getEnclosingElement(), List.of()));
        }
        List<Element> all = new ArrayList<>();
        for (Call call : told) {
            all.add(call.method());
            if (!call.exactly()) {
                all.addAll(overriding(call.method()));
            }
        }
        return all;
    }

    private List<Element> overriding(ExecutableElement method) {
        List<Element> overriding = new ArrayList<>();
        for (TypeElement owner : classes) {
            for (ExecutableElement other : ElementFilter.methodsIn(owner.getEnclosedElements())) {
                if (elements.overrides(other, method, owner)) {
                    overriding.add(other);
                }
            }
        }
        return overriding;
    }

    private static List<String> longer(List<String> one, List<String> other) {
        return other.size() > one.size() ? other : one;
    }

    private static String name(Element method) {
        Element owner = method.getEnclosingElement();
        return owner == null ? method.toString() : owner.getSimpleName() + "." + method.getSimpleName();
    }
}
