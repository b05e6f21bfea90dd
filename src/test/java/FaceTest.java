import java.lang.reflect.Constructor;
import java.lang.reflect.Field;
import java.lang.reflect.Method;
import java.lang.reflect.Modifier;
import java.util.Arrays;
import java.util.Set;
import java.util.TreeSet;

/** The public face, its constants, the rules of the language that can be seen by reflection, and promise 1. */
public final class FaceTest {
    private static final String INDEX = "java.lang.IndexOutOfBoundsException";
    private static final String ARGUMENT = "java.lang.IllegalArgumentException";
    private static final String STATE = "java.lang.IllegalStateException";
    private static final String ALL = " throws " + INDEX + "," + ARGUMENT + "," + STATE;
    private static final String INDEX_STATE = " throws " + INDEX + "," + STATE;
    private static final String INDEX_ONLY = " throws " + INDEX;

    private static final String[] METHODS = {
        "public int OnionCells.secret(int,int)" + ALL,
        "public int OnionCells.create(int,int,int)" + ALL,
        "public int OnionCells.extend(int,int,int)" + ALL,
        "public void OnionCells.begin(int,int,int)" + INDEX_STATE,
        "public int OnionCells.send(int,int,int,int)" + ALL,
        "public int OnionCells.end(int,int)" + INDEX_STATE,
        "public int OnionCells.truncate(int,int)" + INDEX_STATE,
        "public void OnionCells.close(int)" + INDEX_STATE,
        "public int OnionCells.deliver(int) throws " + ARGUMENT,
        "public int OnionCells.damage(int,int,int) throws " + INDEX + "," + ARGUMENT,
        "public int OnionCells.lose(int)" + INDEX_ONLY,
        "public int OnionCells.cell(int,int)" + INDEX_ONLY,
        "public int OnionCells.circuit(int,int)" + INDEX_ONLY,
        "public int OnionCells.key(int,int,int)" + INDEX_ONLY,
        "public int OnionCells.relay(int,int,int)" + INDEX_ONLY,
        "public int OnionCells.data(int,int)" + INDEX_ONLY,
        "public int OnionCells.count(int)" + INDEX_ONLY,
        "public float OnionCells.loss()",
    };
    private static final Set<String> CONSTANTS = Set.of("NOBODY", "NONE", "BUILDING", "READY", "CLOSED");

    private FaceTest() {
    }

    public static void main(String[] args) {
        methods();
        members();
        constants();
        newObject();
        Check.finish();
    }

    private static void methods() {
        Set<String> found = new TreeSet<>();
        Set<String> names = new TreeSet<>();
        for (Method each : OnionCells.class.getDeclaredMethods()) {
            if (Modifier.isPublic(each.getModifiers())) {
                found.add(each.toString());
                names.add(each.getName());
            } else {
                Check.holds(each + " is private", Modifier.isPrivate(each.getModifiers()));
            }
        }
        Set<String> due = new TreeSet<>(Arrays.asList(METHODS));
        Check.holds("the public methods " + found + " are those of the document", found.equals(due));
        for (Method each : OnionCells.class.getDeclaredMethods()) {
            boolean isPrivate = Modifier.isPrivate(each.getModifiers());
            Check.holds(each + " has a name of its own", !isPrivate || !names.contains(each.getName()));
        }
    }

    private static void members() {
        int modifiers = OnionCells.class.getModifiers();
        Check.holds("public and final", Modifier.isPublic(modifiers) && Modifier.isFinal(modifiers));
        Constructor<?>[] constructors = OnionCells.class.getDeclaredConstructors();
        Check.is("constructors", constructors.length, 1);
        Check.holds("public OnionCells()", constructors[0].toString().equals("public OnionCells()"));
        for (Field each : OnionCells.class.getDeclaredFields()) {
            boolean ofFace = CONSTANTS.contains(each.getName());
            Check.holds(each + " is as visible as due", ofFace
                    ? Modifier.isPublic(each.getModifiers()) : Modifier.isPrivate(each.getModifiers()));
            Check.holds(each + " is final, if static", !Modifier.isStatic(each.getModifiers())
                    || Modifier.isFinal(each.getModifiers()));
        }
        for (Class<?> each : OnionCells.class.getDeclaredClasses()) {
            boolean hidden = !Modifier.isPublic(each.getModifiers()) && !Modifier.isProtected(each.getModifiers());
            Check.holds(each + " is hidden and static", hidden && Modifier.isStatic(each.getModifiers()));
        }
        Check.holds("at most twelve classes inside", OnionCells.class.getDeclaredClasses().length <= 12);
    }

    private static void constants() {
        Check.is("NOBODY", OnionCells.NOBODY, -1);
        Check.is("NONE", OnionCells.NONE, 0);
        Check.is("BUILDING", OnionCells.BUILDING, 1);
        Check.is("READY", OnionCells.READY, 2);
        Check.is("CLOSED", OnionCells.CLOSED, 3);
    }

    /** Promise 1: "No cells, no circuits." */
    private static void newObject() {
        OnionCells x = new OnionCells();
        for (int what = 0; what < 5; what++) {
            Check.is("count(" + what + ") of a new object", x.count(what), 0);
        }
        Check.holds("loss() of a new object is 0f", x.loss() == 0f);
        Check.is("deliver(100) of a new object", x.deliver(100), 0);
        for (int c = 0; c < 4; c++) {
            for (int what = 0; what < 12; what++) {
                Check.is("circuit(" + c + ", " + what + ")", x.circuit(c, what), what >= 2 && what <= 5 ? -1 : 0);
            }
            for (int r = 1; r <= 4; r++) {
                for (int what = 0; what < 11; what++) {
                    Check.is("relay(" + r + ", " + c + ", " + what + ")", x.relay(r, c, what),
                            what >= 1 && what <= 3 ? -1 : 0);
                }
            }
            Check.is("data of a new object", x.data(c, 0), -1);
        }
        Check.index("cell(0, 0) of a new object", () -> x.cell(0, 0));
        Check.index("key(0, 0, 0) of a new object", () -> x.key(0, 0, 0));
    }
}
