import java.lang.annotation.ElementType;
import java.lang.annotation.Repeatable;
import java.lang.annotation.Retention;
import java.lang.annotation.RetentionPolicy;
import java.lang.annotation.Target;

/** A change of the program's source that breaks the sentence of a test, so that the test must fail. */
@Retention(RetentionPolicy.RUNTIME)
@Target(ElementType.METHOD)
@Repeatable(Broken.All.class)
@interface Broken {
    /** A piece of the source that stands in it once (without comments, each gap as one space). */
    String from();

    String to();

    @Retention(RetentionPolicy.RUNTIME)
    @Target(ElementType.METHOD)
    @interface All {
        Broken[] value();
    }
}
