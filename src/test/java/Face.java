import java.lang.reflect.InvocationTargetException;
import java.lang.reflect.Method;
import java.lang.reflect.Modifier;
import java.util.ArrayList;
import java.util.Comparator;
import java.util.List;

/** The methods of the face, and what their parameters are. */
final class Face {

    /** All public methods, by their names. */
    static final List<Method> METHODS = new ArrayList<>();

    static {
        for (Method method : PermissionDesk.class.getDeclaredMethods()) {
            if (Modifier.isPublic(method.getModifiers())) {
                METHODS.add(method);
            }
        }
        METHODS.sort(Comparator.comparing(Method::getName));
    }

    private Face() {
    }

    static Method method(String name) {
        for (Method method : METHODS) {
            if (method.getName().equals(name)) {
                return method;
            }
        }
        throw new IllegalArgumentException(name);
    }

    /**
     * What the parameters are: u a user, g a group, o an object, e an entry of it, a a request in the
     * log; r a right, s a set of rights, m a mask, c a code, p a place of the pad, l a slot; b true or
     * false; n any number.
     */
    static String roles(String method) {
        switch (method) {
            case "join": case "leave": case "isMember": case "belongs": case "belongsByMembers":
            case "rightsThrough": return "ug";
            case "nest": case "unnest": case "isNested": return "gg";
            case "make": case "giveTo": return "ou";
            case "move": return "oo";
            case "setMask": return "om";
            case "setInheriting": return "ob";
            case "addForUser": return "ousbb";
            case "addForGroup": return "ogsbb";
            case "addForOwner": case "addForAll": return "osbb";
            case "moveEntry": return "oee";
            case "removeEntry": case "isAllowing": case "rightsOfEntry": case "userOfEntry":
            case "groupOfEntry": case "isForOwner": case "isForBelow": case "isNeedless": return "oe";
            case "share": return "uous";
            case "append": return "c";
            case "codeAt": return "p";
            case "usersWith": return "or";
            case "rightsOf": return "uo";
            case "userOfRequest": case "objectOfRequest": case "wasAllowed": return "a";
            case "save": case "restore": return "l";
            case "ask": case "isAllowed": case "isAllowedByHandingDown": case "decidingObject":
            case "decidingEntry": case "isStoppedByMask": return "uor";
            case "isThere": return "n";
            case "remove": case "writeEntries": case "parentOf": case "ownerOf": case "maskOf":
            case "isInheriting": case "below": case "entriesOf": return "o";
            default: return "";
        }
    }

    /** The answer, or the name of the exception's class. */
    static Object outcome(Method method, Object on, Object... values) {
        try {
            return method.invoke(on, values);
        } catch (InvocationTargetException e) {
            return e.getCause().getClass().getName();
        } catch (IllegalAccessException e) {
            throw new IllegalStateException(e);
        }
    }
}
