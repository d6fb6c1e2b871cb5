import java.lang.reflect.Constructor;
import java.lang.reflect.Field;
import java.lang.reflect.Member;
import java.lang.reflect.Method;
import java.lang.reflect.Modifier;
import java.util.Arrays;
import java.util.Set;
import java.util.TreeSet;

/** The public face: all that the document lists, and nothing else that can be seen. */
public final class FaceTest {
    private static final String CONSTANTS =
        "STATE_INITIAL 0, STATE_STARTING 1, STATE_CLOSED 2, STATE_STOPPED 3, STATE_CLOSING 4, "
        + "STATE_STOPPING 5, STATE_REQ_SENT 6, STATE_ACK_RCVD 7, STATE_ACK_SENT 8, STATE_OPENED 9, "
        + "CODE_CONF_REQ 1, CODE_CONF_ACK 2, CODE_CONF_NAK 3, CODE_CONF_REJ 4, CODE_TERM_REQ 5, "
        + "CODE_TERM_ACK 6, CODE_CODE_REJ 7, CODE_ECHO_REQ 9, CODE_ECHO_REP 10, CODE_DISCARD 11, "
        + "OPT_MRU 0, OPT_AUTH 1, OPT_MAGIC 2, OPT_COMP 3, "
        + "NONE -1, VALUE_MAX 65535, WIRE_CAP 8, ECHO_LIMIT 3, "
        + "INFO_STATE 0, INFO_RESTART 1, INFO_TIMER 2, INFO_NEXT_ID 3, INFO_CR_ID 4, "
        + "INFO_HIGH_CR 5, INFO_NAKS 6, INFO_MISSED 7, INFO_ECHO_ID 8, INFO_UPS 9, INFO_DOWNS 10, "
        + "INFO_STARTS 11, INFO_FINISHES 12, "
        + "OI_LO 0, OI_HI 1, OI_WANT 2, OI_INCLUDED 3, OI_SENT 4, OI_LOCAL 5, OI_REMOTE 6, "
        + "W_CODE 0, W_ID 1, W_DATA 2, W_OPT 3";

    private static final String METHODS =
        "boolean setRange 4, boolean open 1, boolean close 1, boolean up 1, boolean down 1, "
        + "void tick 0, int deliver 1, boolean drop 1, boolean duplicate 1, boolean rotate 1, "
        + "boolean echo 1, boolean inject 3, int peerInfo 2, int optionInfo 3, int wireSize 1, "
        + "int wireInfo 3";

    private static boolean isSeen(Member member) {
        return !Modifier.isPrivate(member.getModifiers());
    }

    private static void same(String what, Set<String> got, String listed) {
        Set<String> due = new TreeSet<>(Arrays.asList(listed.split(", ")));
        Check.due(what + " " + got, got.equals(due), true);
    }

    public static void main(String[] args) throws IllegalAccessException {
        Class<?> face = PppNegotiator.class;
        int constant = Modifier.PUBLIC | Modifier.STATIC | Modifier.FINAL;
        Set<String> constants = new TreeSet<>();
        for (Field field : face.getDeclaredFields()) {
            if (isSeen(field)) {
                Check.due(field + ": modifiers", field.getModifiers(), constant);
                Check.due(field + ": an int", field.getType() == int.class, true);
                constants.add(field.getName() + " " + field.getInt(null));
            }
        }
        same("constants", constants, CONSTANTS);

        Set<String> methods = new TreeSet<>();
        Set<String> hidden = new TreeSet<>();
        Set<String> names = new TreeSet<>();
        for (Method method : face.getDeclaredMethods()) {
            if (isSeen(method)) {
                Check.due(method + ": modifiers", method.getModifiers(), Modifier.PUBLIC);
                for (Class<?> type : method.getParameterTypes()) {
                    Check.due(method + ": takes ints", type == int.class, true);
                }
                methods.add(method.getReturnType() + " " + method.getName() + " "
                    + method.getParameterCount());
                names.add(method.getName());
            } else {
                hidden.add(method.getName());
            }
        }
        same("methods", methods, METHODS);
        hidden.retainAll(names);
        Check.due("private methods that bear a public name " + hidden, hidden.size(), 0);

        Constructor<?>[] constructors = face.getDeclaredConstructors();
        Check.due("constructors", constructors.length, 1);
        Check.due("it is public", constructors[0].getModifiers(), Modifier.PUBLIC);
        Check.due("it takes four ints", Arrays.equals(constructors[0].getParameterTypes(),
            new Class<?>[] {int.class, int.class, int.class, int.class}), true);
        Check.due("the class", face.getModifiers(), Modifier.PUBLIC | Modifier.FINAL);
        Check.due("no class inside", face.getDeclaredClasses().length, 0);
        Check.end();
    }
}
